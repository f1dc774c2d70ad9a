/-! the reference: height, thrown -/
def qHigh (σ : Sg) (p : Int) : Int := if 0 ≤ p ∧ p < gP (sG σ) then gH (sG σ) p else 0
def qThr (σ : Sg) (p : Int) : Int := if 0 ≤ p ∧ p < gP (sG σ) then 0 else 1

set_option maxRecDepth 20000 in
theorem S_X11_height {X : Cx} {h : Hp} {σ : Sg} (am : AM h σ) (o : SOK σ) {p : Int} (hp : InR p) : Spec X mX11_height 60 [.ref (adr X 47), .int (iI p)] h (fun rv h' => rv = some (.int (iI (qHigh σ p))) ∧ hI h' 47 0 = qThr σ p ∧ AM h' σ ∧ sameC h h') := by
  have gk := o.2.2.2.1
  have gb := gk.b
  have e4 : hI h 47 24 = gP (sG σ) := am.2.2.2.2.1.1
  refine spec_wp (Nat.le_of_ble_eq_true rfl) (by decide +kernel) ?_
  refine wp_loc [(0, .ref (adr X 47)), (1, .int (iI p))] ⟨rfl, rfl, trivial⟩ ?_
  refine wp_aload_n dX11_height_0 rfl ?_
  refine wp_aload_n dX11_height_1 rfl ?_
  refine wp_iload_n dX11_height_2 rfl ?_
  refine wp_callVp dX11_height_3 mlX11_290 mvX11_isTurning (S_X11_isTurning (by omega) hp) rfl rfl (by decide) (by decide) rfl rfl rfl (Nat.le_of_ble_eq_true rfl) ?_
  refine wp_ifeqb 13 dX11_height_6 (by decide) (fun c6 => ?_) (fun c6 => ?_)
  · refine wp_iconst dX11_height_13 ?_
    refine wp_putI dX11_height_14 plX11_95 rfl rfl ?_
    refine wp_aload_n dX11_height_17 rfl ?_
    refine wp_getI dX11_height_18 flX11_95 rfl rfl ?_
    rw [hI_same]
    refine wp_ifle 28 dX11_height_21 (by decide) (by first | assumption | (unfold InR; omega)) (fun c21 => ?_) (fun c21 => ?_)
    · exact absurd c21 (by decide)
    · refine wp_iconst dX11_height_24 ?_
      refine wp_goto 34 dX11_height_25 (by decide) ?_
      exact wp_iret dX11_height_34 rfl (⟨vi (by unfold qHigh; rw [if_neg (by omega)]), by rw [hI_same]; unfold qThr; rw [if_neg (by omega)], am.km (KM.sI (by unfold SMx; omega)), (KM.sI (by unfold SMx; omega)).C⟩)
  · refine wp_iconst dX11_height_9 ?_
    refine wp_goto 14 dX11_height_10 (by decide) ?_
    refine wp_putI dX11_height_14 plX11_95 rfl rfl ?_
    refine wp_aload_n dX11_height_17 rfl ?_
    refine wp_getI dX11_height_18 flX11_95 rfl rfl ?_
    rw [hI_same]
    refine wp_ifle 28 dX11_height_21 (by decide) (by first | assumption | (unfold InR; omega)) (fun c21 => ?_) (fun c21 => ?_)
    · refine wp_aload_n dX11_height_28 rfl ?_
      refine wp_getC dX11_height_29 flX11_37 rfl rfl ?_
      refine wp_iload_n dX11_height_32 rfl ?_
      refine wp_iald (n := 24) dX11_height_33 rfl (by omega) (by omega) ?_
      rw [hI_sI, if_neg (by omega), am.hv (by omega)]
      exact wp_iret dX11_height_34 rfl (⟨vi (by unfold qHigh; rw [if_pos (by omega)]), by rw [hI_same]; unfold qThr; rw [if_pos (by omega)], am.km (KM.sI (by unfold SMx; omega)), (KM.sI (by unfold SMx; omega)).C⟩)
    · exact absurd c21 (by decide)

set_option maxRecDepth 20000 in
theorem S_X11_thrown {X : Cx} {h : Hp}  : Spec X mX11_thrown 0 [.ref (adr X 47)] h (fun rv h' => rv = some (.int (iI (hI h 47 0))) ∧ h' = h) := by
  refine spec_wp (Nat.le_of_ble_eq_true rfl) (by decide +kernel) ?_
  refine wp_loc [(0, .ref (adr X 47))] ⟨rfl, trivial⟩ ?_
  refine wp_aload_n dX11_thrown_0 rfl ?_
  refine wp_getI dX11_thrown_1 flX11_95 rfl rfl ?_
  exact wp_iret dX11_thrown_4 rfl (⟨rfl, rfl⟩)

