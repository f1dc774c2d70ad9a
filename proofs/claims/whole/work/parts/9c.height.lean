/-! the class: height, which may throw -/
abbrev nse : String := "java/util/NoSuchElementException"
abbrev nsn : List String := ["java/lang/RuntimeException", "java/lang/Exception"]
/-- words of the throw; all stand in the law's table -/
theorem at_tbl : (vx_at0 RX10 158 nse nsn).all (fun w => decide (w ∈ lw_tbl)) = true := by decide +kernel
theorem at_ot : (vx_at0 RX10 158 nse nsn).all vx_ot = true := by decide +kernel
/-- those that aren't good -/
def nbw : List Cond := (vx_at0 RX10 158 nse nsn).filter (fun w => !goodWord w)
theorem nbw_ot : nbw.all (fun w => w.onTables) = true := by decide +kernel
