/-! the class: height -/
def rmH : Room := { frames := 60, cells := 1, slots := 6, locals := 3840 }
/-- what the throw leaves: the world of h, below what stood -/
def XCh (X : Cx) (h : Hp) (C : Prop) : String → State → State → Prop := fun E s t => E = nse ∧ C ∧ ∃ (H : Heap) (locs : List Loc), va_P X.2.1 vwCl (wld X h) H ∧ va_S (AW X s.heap.size) s.heap H locs ∧ H.size ≤ t.heap.size ∧ ∀ q : Nat, q < H.size → t.heap[q]? = H[q]?
set_option maxRecDepth 20000 in
theorem S_X10_height {X : Cx} {h : Hp} {σ : Sg} {p : Int} (hl0 : X.1.stackTraces = false) (a : AC h σ) (o : SOK σ) (hp : InR p) : SpecX X mX10_height rmH [.ref (adr X 0), .int (iI p)] h (fun rv h' => (rv = some (.int (iI (htO h (hR h 0 6) p))) ∧ h' = h) ∧ 0 ≤ p ∧ p < gP (sG σ)) (XCh X h (¬ (0 ≤ p ∧ p < gP (sG σ)))) 1 6 := by
  have g := a.gb o
  have hG := g.1
  have e4 : hI h (hR h 0 6) 4 = gP (sG σ) := a.2.2.2.2.1.1
  refine specX_wp (Nat.le_of_ble_eq_true rfl) (by decide +kernel) ?_
  refine wp_loc [(0, .ref (adr X 0)), (1, .int (iI p))] ⟨rfl, rfl, trivial⟩ ?_
  refine wp_aload_n dX10_height_0 rfl ?_
  refine wp_getM dX10_height_1 flX10_46 rfl rfl ?_
  refine wp_iload_n dX10_height_4 rfl ?_
  refine wg_callVp dX10_height_5 mlX10_152 mvX3_has (S_X3_has g hp) rfl rfl (by unfold RmOk; decide) (gs0 hG) rfl rfl (Nat.le_of_ble_eq_true rfl) ?_
  rw [e4]
  refine wp_ifneb 19 dX10_height_8 (by decide) (fun c8 => ?_) (fun c8 => ?_)
  · refine wp_aload_n dX10_height_19 rfl ?_
    refine wp_getM dX10_height_20 flX10_46 rfl rfl ?_
    refine wp_iload_n dX10_height_23 rfl ?_
    refine wg_callVp dX10_height_24 mlX10_159 mvX3_heightOf (S_X3_heightOf g hp) rfl rfl (by unfold RmOk; decide) (gs0 hG) rfl rfl (Nat.le_of_ble_eq_true rfl) ?_
    exact wx_iret (by decide) (by decide) dX10_height_27 rfl ⟨⟨rfl, rfl⟩, c8⟩
  · exact wx_throw0 hl0 rfl dX10_height_11 dX10_height_14 dX10_height_15 dX10_height_18 (by decide) (by decide) (by decide) (by decide) (by decide) (by decide) (fun s t H locs h1 h2 h3 h4 => ⟨rfl, c8, H, locs, h1, h2, h3, h4⟩)
