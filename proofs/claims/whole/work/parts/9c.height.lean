/-! the class: height, which may throw -/
/-- words of the throw; all stand in the law's table -/
theorem at_tbl : (vx_at0 RX10 158 nse nsn).all (fun w => decide (w ∈ lw_tbl)) = true := by decide +kernel
theorem at_ot : (vx_at0 RX10 158 nse nsn).all vx_ot = true := by decide +kernel
theorem nbw_ot : nbw.all (fun w => w.onTables) = true := by decide +kernel
