/-! the reference: simple questions -/
set_option maxRecDepth 20000 in
theorem S_X11_isIn {X : Cx} {h : Hp} {a b c : Int} (ha : InL a) (hb : InL b) (hc : InL c) : Spec X mX11_isIn 0 [.long (lI a), .long (lI b), .long (lI c)] h (fun rv h' => rv = some (.int (iI (b2i (b ≤ a ∧ a ≤ c)))) ∧ h' = h) := by
  refine spec_wp (Nat.le_of_ble_eq_true rfl) (by decide +kernel) ?_
  refine wp_loc [(0, .long (lI a)), (2, .long (lI b)), (4, .long (lI c))] ⟨rfl, rfl, rfl, trivial⟩ ?_
  refine wp_lload_n dX11_isIn_0 rfl ?_
  refine wp_lload_n dX11_isIn_1 rfl ?_
  refine wp_lcmp dX11_isIn_2 ?_
  refine wp_iflt 17 dX11_isIn_3 (by decide) (lcm_R _ _) (fun c3 => ?_) (fun c3 => ?_)
  · refine wp_iconst dX11_isIn_17 ?_
    exact wp_zret dX11_isIn_18 rfl (by omega) (⟨vb0 (by rw [lcm_lt ha hb] at c3; omega), rfl⟩)
  · have c3 : ¬ lcm (lI a) (lI b) < 0 := c3
    rw [lcm_lt ha hb] at c3
    refine wp_lload_n dX11_isIn_6 rfl ?_
    refine wp_lload dX11_isIn_7 rfl ?_
    refine wp_lcmp dX11_isIn_9 ?_
    refine wp_ifgt 17 dX11_isIn_10 (by decide) (lcm_R _ _) (fun c10 => ?_) (fun c10 => ?_)
    · refine wp_iconst dX11_isIn_17 ?_
      exact wp_zret dX11_isIn_18 rfl (by omega) (⟨vb0 (by rw [lcm_gt ha hc] at c10; omega), rfl⟩)
    · have c10 : ¬ 0 < lcm (lI a) (lI c) := c10
      rw [lcm_gt ha hc] at c10
      refine wp_iconst dX11_isIn_13 ?_
      refine wp_goto 18 dX11_isIn_14 (by decide) ?_
      exact wp_zret dX11_isIn_18 rfl (by omega) (⟨vb1 (by omega), rfl⟩)

set_option maxRecDepth 20000 in
theorem S_X11_isTurning {X : Cx} {h : Hp} {p : Int} (hP : 0 ≤ hI h 47 24 ∧ hI h 47 24 ≤ 24) (hp : InR p) : Spec X mX11_isTurning 0 [.ref (adr X 47), .int (iI p)] h (fun rv h' => rv = some (.int (iI (b2i (0 ≤ p ∧ p < hI h 47 24)))) ∧ h' = h) := by
  refine spec_wp (Nat.le_of_ble_eq_true rfl) (by decide +kernel) ?_
  refine wp_loc [(0, .ref (adr X 47)), (1, .int (iI p))] ⟨rfl, rfl, trivial⟩ ?_
  refine wp_iload_n dX11_isTurning_0 rfl ?_
  refine wp_iflt 16 dX11_isTurning_1 (by decide) (by first | assumption | (unfold InR; omega)) (fun c1 => ?_) (fun c1 => ?_)
  · refine wp_iconst dX11_isTurning_16 ?_
    exact wp_zret dX11_isTurning_17 rfl (by omega) (⟨by first | exact vb1 (by omega) | exact vb0 (by omega), rfl⟩)
  · refine wp_iload_n dX11_isTurning_4 rfl ?_
    refine wp_aload_n dX11_isTurning_5 rfl ?_
    refine wp_getI dX11_isTurning_6 flX11_272 rfl rfl ?_
    refine wp_icmpge 16 dX11_isTurning_9 (by decide) (by first | assumption | (unfold InR; omega)) (by first | assumption | (unfold InR; omega)) (fun c9 => ?_) (fun c9 => ?_)
    · refine wp_iconst dX11_isTurning_16 ?_
      exact wp_zret dX11_isTurning_17 rfl (by omega) (⟨by first | exact vb1 (by omega) | exact vb0 (by omega), rfl⟩)
    · refine wp_iconst dX11_isTurning_12 ?_
      refine wp_goto 17 dX11_isTurning_13 (by decide) ?_
      exact wp_zret dX11_isTurning_17 rfl (by omega) (⟨by first | exact vb1 (by omega) | exact vb0 (by omega), rfl⟩)

set_option maxRecDepth 20000 in
theorem S_X11_isLeg {X : Cx} {h : Hp} {l : Int} (hP : 0 ≤ hI h 47 24 ∧ hI h 47 24 ≤ 24) (hp : InR l) : Spec X mX11_isLeg 0 [.ref (adr X 47), .int (iI l)] h (fun rv h' => rv = some (.int (iI (b2i (0 < hI h 47 24 ∧ 0 ≤ l ∧ l < 4)))) ∧ h' = h) := by
  refine spec_wp (Nat.le_of_ble_eq_true rfl) (by decide +kernel) ?_
  refine wp_loc [(0, .ref (adr X 47)), (1, .int (iI l))] ⟨rfl, rfl, trivial⟩ ?_
  refine wp_aload_n dX11_isLeg_0 rfl ?_
  refine wp_getI dX11_isLeg_1 flX11_272 rfl rfl ?_
  refine wp_ifle 20 dX11_isLeg_4 (by decide) (by first | assumption | (unfold InR; omega)) (fun c4 => ?_) (fun c4 => ?_)
  · refine wp_iconst dX11_isLeg_20 ?_
    exact wp_zret dX11_isLeg_21 rfl (by omega) (⟨by first | exact vb1 (by omega) | exact vb0 (by omega), rfl⟩)
  · refine wp_iload_n dX11_isLeg_7 rfl ?_
    refine wp_iflt 20 dX11_isLeg_8 (by decide) (by first | assumption | (unfold InR; omega)) (fun c8 => ?_) (fun c8 => ?_)
    · refine wp_iconst dX11_isLeg_20 ?_
      exact wp_zret dX11_isLeg_21 rfl (by omega) (⟨by first | exact vb1 (by omega) | exact vb0 (by omega), rfl⟩)
    · refine wp_iload_n dX11_isLeg_11 rfl ?_
      refine wp_iconst dX11_isLeg_12 ?_
      refine wp_icmpge 20 dX11_isLeg_13 (by decide) (by first | assumption | (unfold InR; omega)) (by first | assumption | (unfold InR; omega)) (fun c13 => ?_) (fun c13 => ?_)
      · refine wp_iconst dX11_isLeg_20 ?_
        exact wp_zret dX11_isLeg_21 rfl (by omega) (⟨by first | exact vb1 (by omega) | exact vb0 (by omega), rfl⟩)
      · refine wp_iconst dX11_isLeg_16 ?_
        refine wp_goto 21 dX11_isLeg_17 (by decide) ?_
        exact wp_zret dX11_isLeg_21 rfl (by omega) (⟨by first | exact vb1 (by omega) | exact vb0 (by omega), rfl⟩)

set_option maxRecDepth 20000 in
theorem S_X11_pointOf {X : Cx} {h : Hp} {p l : Int} (g : GB2 (GM h)) (hp : 0 ≤ p ∧ p < gP (GM h)) (hl : 0 ≤ l ∧ l < 4) : Spec X mX11_pointOf 0 [.ref (adr X 47), .int (iI l), .int (iI p)] h (fun rv h' => rv = some (.int (iI (ptB (gP (GM h)) (gA (GM h)) p l))) ∧ h' = h) := by
  have g1 := g.1
  have g2 := g.2.1
  have e4 : gP (GM h) = hI h 47 24 := rfl
  have e5 : gA (GM h) = hI h 47 26 := rfl
  have pm := ptB_mod (P := gP (GM h)) (A := gA (GM h)) (p := p) (l := l) (by omega) hp hl
  refine spec_wp (Nat.le_of_ble_eq_true rfl) (by decide +kernel) ?_
  refine wp_loc [(0, .ref (adr X 47)), (1, .int (iI l)), (2, .int (iI p))] ⟨rfl, rfl, rfl, trivial⟩ ?_
  refine wp_iload_n dX11_pointOf_0 rfl ?_
  refine wp_iload_n dX11_pointOf_1 rfl ?_
  refine wp_iconst dX11_pointOf_2 ?_
  refine wp_iremp dX11_pointOf_3 (by omega) (by omega) (by unfold InR; omega) (by unfold InR; omega) ?_
  refine wp_iconst dX11_pointOf_4 ?_
  refine wp_icmpne 15 dX11_pointOf_5 (by decide) (by unfold InR; omega) (by unfold InR; omega) (fun c5 => ?_) (fun c5 => ?_)
  · refine wp_iconst dX11_pointOf_15 ?_
    refine wp_iadd dX11_pointOf_16 ?_
    refine wp_iload_n dX11_pointOf_17 rfl ?_
    refine wp_iconst dX11_pointOf_18 ?_
    refine wp_icmple 31 dX11_pointOf_19 (by decide) (by unfold InR; omega) (by unfold InR; omega) (fun c19 => ?_) (fun c19 => ?_)
    · refine wp_iconst dX11_pointOf_31 ?_
      refine wp_iadd dX11_pointOf_32 ?_
      refine wp_aload_n dX11_pointOf_33 rfl ?_
      refine wp_getI dX11_pointOf_34 flX11_272 rfl rfl ?_
      refine wp_iremp dX11_pointOf_37 (by omega) (by omega) (by unfold InR; omega) (by unfold InR; omega) ?_
      exact wp_iret dX11_pointOf_38 rfl (⟨vi (by rw [← pm, e4, e5]; first | (rw [if_pos (by omega), if_pos (by omega)]; done) | (rw [if_pos (by omega), if_neg (by omega)]; done) | (rw [if_neg (by omega), if_pos (by omega)]; done) | (rw [if_neg (by omega), if_neg (by omega)]; done)), rfl⟩)
    · refine wp_aload_n dX11_pointOf_22 rfl ?_
      refine wp_getI dX11_pointOf_23 flX11_272 rfl rfl ?_
      refine wp_iconst dX11_pointOf_26 ?_
      refine wp_idivp dX11_pointOf_27 (by omega) (by omega) (by unfold InR; omega) (by unfold InR; omega) ?_
      refine wp_goto 32 dX11_pointOf_28 (by decide) ?_
      refine wp_iadd dX11_pointOf_32 ?_
      refine wp_aload_n dX11_pointOf_33 rfl ?_
      refine wp_getI dX11_pointOf_34 flX11_272 rfl rfl ?_
      refine wp_iremp dX11_pointOf_37 (by omega) (by omega) (by unfold InR; omega) (by unfold InR; omega) ?_
      exact wp_iret dX11_pointOf_38 rfl (⟨vi (by rw [← pm, e4, e5]; first | (rw [if_pos (by omega), if_pos (by omega)]; done) | (rw [if_pos (by omega), if_neg (by omega)]; done) | (rw [if_neg (by omega), if_pos (by omega)]; done) | (rw [if_neg (by omega), if_neg (by omega)]; done)), rfl⟩)
  · refine wp_aload_n dX11_pointOf_8 rfl ?_
    refine wp_getI dX11_pointOf_9 flX11_278 rfl rfl ?_
    refine wp_goto 16 dX11_pointOf_12 (by decide) ?_
    refine wp_iadd dX11_pointOf_16 ?_
    refine wp_iload_n dX11_pointOf_17 rfl ?_
    refine wp_iconst dX11_pointOf_18 ?_
    refine wp_icmple 31 dX11_pointOf_19 (by decide) (by unfold InR; omega) (by unfold InR; omega) (fun c19 => ?_) (fun c19 => ?_)
    · refine wp_iconst dX11_pointOf_31 ?_
      refine wp_iadd dX11_pointOf_32 ?_
      refine wp_aload_n dX11_pointOf_33 rfl ?_
      refine wp_getI dX11_pointOf_34 flX11_272 rfl rfl ?_
      refine wp_iremp dX11_pointOf_37 (by omega) (by omega) (by unfold InR; omega) (by unfold InR; omega) ?_
      exact wp_iret dX11_pointOf_38 rfl (⟨vi (by rw [← pm, e4, e5]; first | (rw [if_pos (by omega), if_pos (by omega)]; done) | (rw [if_pos (by omega), if_neg (by omega)]; done) | (rw [if_neg (by omega), if_pos (by omega)]; done) | (rw [if_neg (by omega), if_neg (by omega)]; done)), rfl⟩)
    · refine wp_aload_n dX11_pointOf_22 rfl ?_
      refine wp_getI dX11_pointOf_23 flX11_272 rfl rfl ?_
      refine wp_iconst dX11_pointOf_26 ?_
      refine wp_idivp dX11_pointOf_27 (by omega) (by omega) (by unfold InR; omega) (by unfold InR; omega) ?_
      refine wp_goto 32 dX11_pointOf_28 (by decide) ?_
      refine wp_iadd dX11_pointOf_32 ?_
      refine wp_aload_n dX11_pointOf_33 rfl ?_
      refine wp_getI dX11_pointOf_34 flX11_272 rfl rfl ?_
      refine wp_iremp dX11_pointOf_37 (by omega) (by omega) (by unfold InR; omega) (by unfold InR; omega) ?_
      exact wp_iret dX11_pointOf_38 rfl (⟨vi (by rw [← pm, e4, e5]; first | (rw [if_pos (by omega), if_pos (by omega)]; done) | (rw [if_pos (by omega), if_neg (by omega)]; done) | (rw [if_neg (by omega), if_pos (by omega)]; done) | (rw [if_neg (by omega), if_neg (by omega)]; done)), rfl⟩)

theorem hM_in {h : Hp} {i : Int} (hi : 0 ≤ i ∧ i < hI h 47 24) : hI h 52 i.toNat = hM h i := by unfold hM; rw [if_pos hi]
theorem sM_in {h : Hp} {i : Int} (hi : 0 ≤ i ∧ i < 4) : hI h 54 i.toNat = sM h i := by unfold sM; rw [if_pos hi]

set_option maxRecDepth 20000 in
theorem S_X11_reach {X : Cx} {h : Hp} {p l : Int} (g : GB2 (GM h)) (hp : 0 ≤ p ∧ p < gP (GM h)) (hl : 0 ≤ l ∧ l < 4) : Spec X mX11_reach 1 [.ref (adr X 47), .int (iI l), .int (iI p)] h (fun rv h' => rv = some (.int (iI (rchF (GM h) p l))) ∧ h' = h) := by
  have g1 := g.1
  have g2 := g.2.1
  have e4 : gP (GM h) = hI h 47 24 := rfl
  have e5 : gA (GM h) = hI h 47 26 := rfl
  have pb := ptB_in (P := gP (GM h)) (A := gA (GM h)) (p := p) (l := l) (by omega) hp hl
  refine spec_wp (Nat.le_of_ble_eq_true rfl) (by decide +kernel) ?_
  refine wp_loc [(0, .ref (adr X 47)), (1, .int (iI l)), (2, .int (iI p))] ⟨rfl, rfl, rfl, trivial⟩ ?_
  refine wp_aload_n dX11_reach_0 rfl ?_
  refine wp_getC dX11_reach_1 flX11_37 rfl rfl ?_
  refine wp_aload_n dX11_reach_4 rfl ?_
  refine wp_iload_n dX11_reach_5 rfl ?_
  refine wp_iload_n dX11_reach_6 rfl ?_
  refine wp_callVp dX11_reach_7 mlX11_296 mvX11_pointOf (S_X11_pointOf g hp hl) rfl rfl (by decide) (by decide) rfl rfl rfl (Nat.le_of_ble_eq_true rfl) ?_
  refine wp_iald (n := 24) dX11_reach_10 rfl (by omega) (by omega) ?_
  rw [hM_in (by omega)]
  refine wp_aload_n dX11_reach_11 rfl ?_
  refine wp_getC dX11_reach_12 flX11_43 rfl rfl ?_
  refine wp_iload_n dX11_reach_15 rfl ?_
  refine wp_iald (n := 4) dX11_reach_16 rfl (by omega) (by omega) ?_
  rw [sM_in hl]
  refine wp_isub dX11_reach_17 ?_
  exact wp_iret dX11_reach_18 rfl (⟨rfl, rfl⟩)

set_option maxRecDepth 20000 in
theorem S_X11_gapOf {X : Cx} {h : Hp} {p : Int} (g : GB2 (GM h)) (hp : 0 ≤ p ∧ p < gP (GM h)) : Spec X mX11_gapOf 2 [.ref (adr X 47), .int (iI p)] h (fun rv h' => rv = some (.int (iI (gapF (GM h) p))) ∧ h' = h) := by
  have g1 := g.1
  have g2 := g.2.1
  have e4 : gP (GM h) = hI h 47 24 := rfl
  have e5 : gA (GM h) = hI h 47 26 := rfl
  refine spec_wp (Nat.le_of_ble_eq_true rfl) (by decide +kernel) ?_
  refine wp_loc [(0, .ref (adr X 47)), (1, .int (iI p))] ⟨rfl, rfl, trivial⟩ ?_
  refine wp_aload_n dX11_gapOf_0 rfl ?_
  refine wp_iconst dX11_gapOf_1 ?_
  refine wp_iload_n dX11_gapOf_2 rfl ?_
  refine wp_callVp dX11_gapOf_3 mlX11_299 mvX11_reach (S_X11_reach g hp (by omega)) rfl rfl (by decide) (by decide) rfl rfl rfl (Nat.le_of_ble_eq_true rfl) ?_
  refine wp_aload_n dX11_gapOf_6 rfl ?_
  refine wp_iconst dX11_gapOf_7 ?_
  refine wp_iload_n dX11_gapOf_8 rfl ?_
  refine wp_callVp dX11_gapOf_9 mlX11_299 mvX11_reach (S_X11_reach g hp (by omega)) rfl rfl (by decide) (by decide) rfl rfl rfl (Nat.le_of_ble_eq_true rfl) ?_
  refine wp_iadd dX11_gapOf_12 ?_
  refine wp_aload_n dX11_gapOf_13 rfl ?_
  refine wp_iconst dX11_gapOf_14 ?_
  refine wp_iload_n dX11_gapOf_15 rfl ?_
  refine wp_callVp dX11_gapOf_16 mlX11_299 mvX11_reach (S_X11_reach g hp (by omega)) rfl rfl (by decide) (by decide) rfl rfl rfl (Nat.le_of_ble_eq_true rfl) ?_
  refine wp_isub dX11_gapOf_19 ?_
  refine wp_aload_n dX11_gapOf_20 rfl ?_
  refine wp_iconst dX11_gapOf_21 ?_
  refine wp_iload_n dX11_gapOf_22 rfl ?_
  refine wp_callVp dX11_gapOf_23 mlX11_299 mvX11_reach (S_X11_reach g hp (by omega)) rfl rfl (by decide) (by decide) rfl rfl rfl (Nat.le_of_ble_eq_true rfl) ?_
  refine wp_isub dX11_gapOf_26 ?_
  exact wp_iret dX11_gapOf_27 rfl (⟨vi (gap_rch _ _).symm, rfl⟩)

set_option maxRecDepth 20000 in
theorem S_X11_slant {X : Cx} {h : Hp} {p l : Int} (g : GB2 (GM h)) (hp : 0 ≤ p ∧ p < gP (GM h)) (hl : 0 ≤ l ∧ l < 2) : Spec X mX11_slant 2 [.ref (adr X 47), .int (iI l), .int (iI p)] h (fun rv h' => rv = some (.int (iI (slnF (GM h) p l))) ∧ h' = h) := by
  have g1 := g.1
  have g2 := g.2.1
  have e4 : gP (GM h) = hI h 47 24 := rfl
  have e5 : gA (GM h) = hI h 47 26 := rfl
  refine spec_wp (Nat.le_of_ble_eq_true rfl) (by decide +kernel) ?_
  refine wp_loc [(0, .ref (adr X 47)), (1, .int (iI l)), (2, .int (iI p))] ⟨rfl, rfl, rfl, trivial⟩ ?_
  refine wp_aload_n dX11_slant_0 rfl ?_
  refine wp_iload_n dX11_slant_1 rfl ?_
  refine wp_iload_n dX11_slant_2 rfl ?_
  refine wp_callVp dX11_slant_3 mlX11_299 mvX11_reach (S_X11_reach g hp (by omega)) rfl rfl (by decide) (by decide) rfl rfl rfl (Nat.le_of_ble_eq_true rfl) ?_
  refine wp_aload_n dX11_slant_6 rfl ?_
  refine wp_iload_n dX11_slant_7 rfl ?_
  refine wp_iconst dX11_slant_8 ?_
  refine wp_iadd dX11_slant_9 ?_
  refine wp_iload_n dX11_slant_10 rfl ?_
  refine wp_callVp dX11_slant_11 mlX11_299 mvX11_reach (S_X11_reach g hp (by omega)) rfl rfl (by decide) (by decide) rfl rfl rfl (Nat.le_of_ble_eq_true rfl) ?_
  refine wp_isub dX11_slant_14 ?_
  exact wp_iret dX11_slant_15 rfl (⟨rfl, rfl⟩)

set_option maxRecDepth 20000 in
theorem S_X11_tiltOf {X : Cx} {h : Hp} {p : Int} (g : GB2 (GM h)) (hp : 0 ≤ p ∧ p < gP (GM h)) : Spec X mX11_tiltOf 3 [.ref (adr X 47), .int (iI p)] h (fun rv h' => rv = some (.int (iI (tltF (GM h) p))) ∧ h' = h) := by
  have g1 := g.1
  have g2 := g.2.1
  have e4 : gP (GM h) = hI h 47 24 := rfl
  have e5 : gA (GM h) = hI h 47 26 := rfl
  have s0 := sln_b2 g p 0
  have s1 := sln_b2 g p 1
  have a0 := iabs_b (n := 198) s0
  have a1 := iabs_b (n := 198) s1
  refine spec_wp (Nat.le_of_ble_eq_true rfl) (by decide +kernel) ?_
  refine wp_loc [(0, .ref (adr X 47)), (1, .int (iI p))] ⟨rfl, rfl, trivial⟩ ?_
  refine wp_aload_n dX11_tiltOf_0 rfl ?_
  refine wp_iconst dX11_tiltOf_1 ?_
  refine wp_iload_n dX11_tiltOf_2 rfl ?_
  refine wp_callVp dX11_tiltOf_3 mlX11_302 mvX11_slant (S_X11_slant g hp (by omega)) rfl rfl (by decide) (by decide) rfl rfl rfl (Nat.le_of_ble_eq_true rfl) ?_
  refine wp_callSp dX11_tiltOf_6 mlX11_305 msJ9_abs_0f7a4 (S_J9_abs_0f7a4 (by unfold InR; omega)) rfl rfl (by decide) (by decide) (Nat.le_of_ble_eq_true rfl) ?_
  refine wp_aload_n dX11_tiltOf_9 rfl ?_
  refine wp_iconst dX11_tiltOf_10 ?_
  refine wp_iload_n dX11_tiltOf_11 rfl ?_
  refine wp_callVp dX11_tiltOf_12 mlX11_302 mvX11_slant (S_X11_slant g hp (by omega)) rfl rfl (by decide) (by decide) rfl rfl rfl (Nat.le_of_ble_eq_true rfl) ?_
  refine wp_callSp dX11_tiltOf_15 mlX11_305 msJ9_abs_0f7a4 (S_J9_abs_0f7a4 (by unfold InR; omega)) rfl rfl (by decide) (by decide) (Nat.le_of_ble_eq_true rfl) ?_
  refine wp_callSp dX11_tiltOf_18 mlX11_308 msJ9_max_7cf53 (S_J9_max_7cf53 (by unfold InR; omega) (by unfold InR; omega)) rfl rfl (by decide) (by decide) (Nat.le_of_ble_eq_true rfl) ?_
  exact wp_iret dX11_tiltOf_21 rfl (⟨rfl, rfl⟩)

set_option maxRecDepth 20000 in
theorem S_X11_gap {X : Cx} {h : Hp} {σ : Sg} (am : AM h σ) (o : SOK σ) {p : Int} (hp : InR p) : Spec X mX11_gap 60 [.ref (adr X 47), .int (iI p)] h (fun rv h' => rv = some (.int (iI (qGap σ p))) ∧ AM h' σ ∧ sameC h h') := by
  refine spec_wp (Nat.le_of_ble_eq_true rfl) (by decide +kernel) ?_
  refine wp_loc [(0, .ref (adr X 47)), (1, .int (iI p))] ⟨rfl, rfl, trivial⟩ ?_
  refine wp_aload_n dX11_gap_0 rfl ?_
  refine wp_iconst dX11_gap_1 ?_
  refine wp_putI dX11_gap_2 plX11_95 rfl rfl ?_
  have k0 : KM h (sI h 47 0 0) := KM.sI (by unfold SMx; omega)
  have am := am.km k0
  generalize sI h 47 0 0 = h0 at *
  have gk := o.2.2.2.1
  have gb := gk.b
  have gkb := gk.2.1
  have e4 : hI h0 47 24 = gP (sG σ) := am.2.2.2.2.1.1
  have e5 : hI h0 47 26 = gA (sG σ) := am.2.2.2.2.1.2.1
  have e6 : hI h0 47 27 = gK (sG σ) := am.2.2.2.2.1.2.2.1
  have em : GM h0 = gE (sG σ) := am.gm
  have ep : gP (GM h0) = gP (sG σ) := e4
  refine wp_aload_n dX11_gap_5 rfl ?_
  refine wp_iload_n dX11_gap_6 rfl ?_
  refine wp_callVp dX11_gap_7 mlX11_290 mvX11_isTurning (S_X11_isTurning (by omega) (by first | assumption | (unfold InR; omega))) rfl rfl (by decide) (by decide) rfl rfl rfl (Nat.le_of_ble_eq_true rfl) ?_
  refine wp_ifeqb 21 dX11_gap_10 (by decide) (fun c10 => ?_) (fun c10 => ?_)
  · refine wp_ldcw (z := -1000000) dX11_gap_21 kcX11_313 ?_
    exact wp_iret dX11_gap_24 rfl (⟨vi (by unfold qGap; rw [if_neg (by omega)]), am, k0.C⟩)
  · refine wp_aload_n dX11_gap_13 rfl ?_
    refine wp_iload_n dX11_gap_14 rfl ?_
    refine wp_callVp dX11_gap_15 mlX11_310 mvX11_gapOf (S_X11_gapOf (am.b2 o (by omega)) (by omega)) rfl rfl (by decide) (by decide) rfl rfl rfl (Nat.le_of_ble_eq_true rfl) ?_
    refine wp_goto 24 dX11_gap_18 (by decide) ?_
    exact wp_iret dX11_gap_24 rfl (⟨vi (by unfold qGap; rw [if_pos (by omega), em]; rfl), am, k0.C⟩)

set_option maxRecDepth 20000 in
theorem S_X11_tilt {X : Cx} {h : Hp} {σ : Sg} (am : AM h σ) (o : SOK σ) {p : Int} (hp : InR p) : Spec X mX11_tilt 60 [.ref (adr X 47), .int (iI p)] h (fun rv h' => rv = some (.int (iI (qTilt σ p))) ∧ AM h' σ ∧ sameC h h') := by
  refine spec_wp (Nat.le_of_ble_eq_true rfl) (by decide +kernel) ?_
  refine wp_loc [(0, .ref (adr X 47)), (1, .int (iI p))] ⟨rfl, rfl, trivial⟩ ?_
  refine wp_aload_n dX11_tilt_0 rfl ?_
  refine wp_iconst dX11_tilt_1 ?_
  refine wp_putI dX11_tilt_2 plX11_95 rfl rfl ?_
  have k0 : KM h (sI h 47 0 0) := KM.sI (by unfold SMx; omega)
  have am := am.km k0
  generalize sI h 47 0 0 = h0 at *
  have gk := o.2.2.2.1
  have gb := gk.b
  have gkb := gk.2.1
  have e4 : hI h0 47 24 = gP (sG σ) := am.2.2.2.2.1.1
  have e5 : hI h0 47 26 = gA (sG σ) := am.2.2.2.2.1.2.1
  have e6 : hI h0 47 27 = gK (sG σ) := am.2.2.2.2.1.2.2.1
  have em : GM h0 = gE (sG σ) := am.gm
  have ep : gP (GM h0) = gP (sG σ) := e4
  refine wp_aload_n dX11_tilt_5 rfl ?_
  refine wp_iload_n dX11_tilt_6 rfl ?_
  refine wp_callVp dX11_tilt_7 mlX11_290 mvX11_isTurning (S_X11_isTurning (by omega) (by first | assumption | (unfold InR; omega))) rfl rfl (by decide) (by decide) rfl rfl rfl (Nat.le_of_ble_eq_true rfl) ?_
  refine wp_ifeqb 21 dX11_tilt_10 (by decide) (fun c10 => ?_) (fun c10 => ?_)
  · refine wp_iconst dX11_tilt_21 ?_
    exact wp_iret dX11_tilt_22 rfl (⟨vi (by unfold qTilt; rw [if_neg (by omega)]), am, k0.C⟩)
  · refine wp_aload_n dX11_tilt_13 rfl ?_
    refine wp_iload_n dX11_tilt_14 rfl ?_
    refine wp_callVp dX11_tilt_15 mlX11_314 mvX11_tiltOf (S_X11_tiltOf (am.b2 o (by omega)) (by omega)) rfl rfl (by decide) (by decide) rfl rfl rfl (Nat.le_of_ble_eq_true rfl) ?_
    refine wp_goto 22 dX11_tilt_18 (by decide) ?_
    exact wp_iret dX11_tilt_22 rfl (⟨vi (by unfold qTilt; rw [if_pos (by omega), em]; rfl), am, k0.C⟩)

set_option maxRecDepth 20000 in
theorem S_X11_shorter {X : Cx} {h : Hp} {σ : Sg} (am : AM h σ) (o : SOK σ) {l : Int} (hl : InR l) : Spec X mX11_shorter 60 [.ref (adr X 47), .int (iI l)] h (fun rv h' => rv = some (.int (iI (qShorter σ l))) ∧ AM h' σ ∧ sameC h h') := by
  refine spec_wp (Nat.le_of_ble_eq_true rfl) (by decide +kernel) ?_
  refine wp_loc [(0, .ref (adr X 47)), (1, .int (iI l))] ⟨rfl, rfl, trivial⟩ ?_
  refine wp_aload_n dX11_shorter_0 rfl ?_
  refine wp_iconst dX11_shorter_1 ?_
  refine wp_putI dX11_shorter_2 plX11_95 rfl rfl ?_
  have k0 : KM h (sI h 47 0 0) := KM.sI (by unfold SMx; omega)
  have am := am.km k0
  generalize sI h 47 0 0 = h0 at *
  have gk := o.2.2.2.1
  have gb := gk.b
  have gkb := gk.2.1
  have e4 : hI h0 47 24 = gP (sG σ) := am.2.2.2.2.1.1
  have e5 : hI h0 47 26 = gA (sG σ) := am.2.2.2.2.1.2.1
  have e6 : hI h0 47 27 = gK (sG σ) := am.2.2.2.2.1.2.2.1
  have em : GM h0 = gE (sG σ) := am.gm
  have ep : gP (GM h0) = gP (sG σ) := e4
  refine wp_aload_n dX11_shorter_5 rfl ?_
  refine wp_iload_n dX11_shorter_6 rfl ?_
  refine wp_callVp dX11_shorter_7 mlX11_293 mvX11_isLeg (S_X11_isLeg (by omega) (by first | assumption | (unfold InR; omega))) rfl rfl (by decide) (by decide) rfl rfl rfl (Nat.le_of_ble_eq_true rfl) ?_
  refine wp_ifeqb 22 dX11_shorter_10 (by decide) (fun c10 => ?_) (fun c10 => ?_)
  · refine wp_iconst dX11_shorter_22 ?_
    exact wp_iret dX11_shorter_23 rfl (⟨vi (by unfold qShorter; rw [if_neg (by omega)]), am, k0.C⟩)
  · refine wp_aload_n dX11_shorter_13 rfl ?_
    refine wp_getC dX11_shorter_14 flX11_43 rfl rfl ?_
    refine wp_iload_n dX11_shorter_17 rfl ?_
    refine wp_iald dX11_shorter_18 (by first | rfl | exact gs1 hG | exact gs2 hG | exact gs3 hG | exact gs4 hG | exact ws1 hW | exact ws2 hW | assumption) (by omega) (by omega) ?_
    refine wp_goto 23 dX11_shorter_19 (by decide) ?_
    exact wp_iret dX11_shorter_23 rfl (⟨vi (by unfold qShorter; rw [if_pos (by omega), am.sv (by omega)]), am, k0.C⟩)

set_option maxRecDepth 20000 in
theorem S_X11_card {X : Cx} {h : Hp} {σ : Sg} (am : AM h σ) (o : SOK σ) {s w : Int} (hs : InR s) (hw : InR w) : Spec X mX11_card 60 [.ref (adr X 47), .int (iI s), .int (iI w)] h (fun rv h' => rv = some (.int (iI (qCard σ s w))) ∧ AM h' σ ∧ sameC h h') := by
  refine spec_wp (Nat.le_of_ble_eq_true rfl) (by decide +kernel) ?_
  refine wp_loc [(0, .ref (adr X 47)), (1, .int (iI s)), (2, .int (iI w))] ⟨rfl, rfl, rfl, trivial⟩ ?_
  refine wp_aload_n dX11_card_0 rfl ?_
  refine wp_iconst dX11_card_1 ?_
  refine wp_putI dX11_card_2 plX11_95 rfl rfl ?_
  have k0 : KM h (sI h 47 0 0) := KM.sI (by unfold SMx; omega)
  have am := am.km k0
  generalize sI h 47 0 0 = h0 at *
  have gk := o.2.2.2.1
  have gb := gk.b
  have gkb := gk.2.1
  have e4 : hI h0 47 24 = gP (sG σ) := am.2.2.2.2.1.1
  have e5 : hI h0 47 26 = gA (sG σ) := am.2.2.2.2.1.2.1
  have e6 : hI h0 47 27 = gK (sG σ) := am.2.2.2.2.1.2.2.1
  have em : GM h0 = gE (sG σ) := am.gm
  have ep : gP (GM h0) = gP (sG σ) := e4
  refine wp_aload_n dX11_card_5 rfl ?_
  refine wp_getI dX11_card_6 flX11_272 rfl rfl ?_
  refine wp_ifle 51 dX11_card_9 (by decide) (by unfold InR; omega) (fun c9 => ?_) (fun c9 => ?_)
  · refine wp_iconst dX11_card_51 ?_
    exact wp_iret dX11_card_52 rfl (⟨vi (by unfold qCard; rw [if_neg (by have := gk.1; omega)]), am, k0.C⟩)
  · refine wp_iload_n dX11_card_12 rfl ?_
    refine wp_i2lI dX11_card_13 (by first | assumption | (unfold InR; omega)) ?_
    refine wp_lconst (v := 0) dX11_card_14 rfl ?_
    refine wp_aload_n dX11_card_15 rfl ?_
    refine wp_getI dX11_card_16 flX11_275 rfl rfl ?_
    refine wp_iconst dX11_card_19 ?_
    refine wp_isub dX11_card_20 ?_
    refine wp_i2lI dX11_card_21 (by first | assumption | (unfold InR; omega)) ?_
    refine wp_callSp dX11_card_22 mlX11_219 msX11_isIn (S_X11_isIn (a := s) (b := 0) (c := (hI h0 47 27 - 1)) (by first | (exact InR.L (by assumption)) | (unfold InL; omega)) (by unfold InL; omega) (by unfold InL; omega)) rfl rfl (by decide) (by decide) (Nat.le_of_ble_eq_true rfl) ?_
    refine wp_ifeqb 51 dX11_card_25 (by decide) (fun c25 => ?_) (fun c25 => ?_)
    · refine wp_iconst dX11_card_51 ?_
      exact wp_iret dX11_card_52 rfl (⟨vi (by unfold qCard; rw [if_neg (by have := gk.1; omega)]), am, k0.C⟩)
    · refine wp_iload_n dX11_card_28 rfl ?_
      refine wp_i2lI dX11_card_29 (by first | assumption | (unfold InR; omega)) ?_
      refine wp_lconst (v := 0) dX11_card_30 rfl ?_
      refine wp_lconst (v := 1) dX11_card_31 rfl ?_
      refine wp_callSp dX11_card_32 mlX11_219 msX11_isIn (S_X11_isIn (a := w) (b := 0) (c := 1) (by first | (exact InR.L (by assumption)) | (unfold InL; omega)) (by unfold InL; omega) (by unfold InL; omega)) rfl rfl (by decide) (by decide) (Nat.le_of_ble_eq_true rfl) ?_
      refine wp_ifeqb 51 dX11_card_35 (by decide) (fun c35 => ?_) (fun c35 => ?_)
      · refine wp_iconst dX11_card_51 ?_
        exact wp_iret dX11_card_52 rfl (⟨vi (by unfold qCard; rw [if_neg (by have := gk.1; omega)]), am, k0.C⟩)
      · have hc := am.2.2.2.2.1.2.2.2.2.2 s.toNat (by omega)
        rw [show ((s.toNat : Nat) : Int) = s by omega] at hc
        refine wp_aload_n dX11_card_38 rfl ?_
        refine wp_getC dX11_card_39 flX11_49 rfl rfl ?_
        refine wp_iconst dX11_card_42 ?_
        refine wp_iload_n dX11_card_43 rfl ?_
        refine wp_imul dX11_card_44 ?_
        refine wp_iload_n dX11_card_45 rfl ?_
        refine wp_iadd dX11_card_46 ?_
        refine wp_iald dX11_card_47 (by first | rfl | exact gs1 hG | exact gs2 hG | exact gs3 hG | exact gs4 hG | exact ws1 hW | exact ws2 hW | assumption) (by omega) (by omega) ?_
        refine wp_goto 52 dX11_card_48 (by decide) ?_
        exact wp_iret dX11_card_52 rfl (by
  refine ⟨vi ?_, am, k0.C⟩
  unfold qCard
  rw [if_pos (by omega)]
  rcases (show w = 0 ∨ w = 1 by omega) with rfl | rfl
  · rw [if_pos rfl, ← hc.1]; congr 1; omega
  · rw [if_neg (by decide), ← hc.2]; congr 1; omega)

set_option maxRecDepth 20000 in
theorem S_X11_count {X : Cx} {h : Hp} {σ : Sg} (am : AM h σ) (o : SOK σ) {w : Int} (hw : InR w) : Spec X mX11_count 60 [.ref (adr X 47), .int (iI w)] h (fun rv h' => rv = some (.int (iI (qCount σ w))) ∧ AM h' σ ∧ sameC h h') := by
  refine spec_wp (Nat.le_of_ble_eq_true rfl) (by decide +kernel) ?_
  refine wp_loc [(0, .ref (adr X 47)), (1, .int (iI w))] ⟨rfl, rfl, trivial⟩ ?_
  refine wp_aload_n dX11_count_0 rfl ?_
  refine wp_iconst dX11_count_1 ?_
  refine wp_putI dX11_count_2 plX11_95 rfl rfl ?_
  have k0 : KM h (sI h 47 0 0) := KM.sI (by unfold SMx; omega)
  have am := am.km k0
  generalize sI h 47 0 0 = h0 at *
  have gk := o.2.2.2.1
  have gb := gk.b
  have gkb := gk.2.1
  have e4 : hI h0 47 24 = gP (sG σ) := am.2.2.2.2.1.1
  have e5 : hI h0 47 26 = gA (sG σ) := am.2.2.2.2.1.2.1
  have e6 : hI h0 47 27 = gK (sG σ) := am.2.2.2.2.1.2.2.1
  have em : GM h0 = gE (sG σ) := am.gm
  have ep : gP (GM h0) = gP (sG σ) := e4
  have g0 := gk.1
  refine wp_iload_n dX11_count_5 rfl ?_
  rcases (show w = 0 ∨ w = 1 ∨ w = 2 ∨ w = 3 ∨ w = 4 ∨ w = 5 ∨ w = 6 ∨ w = 7 ∨ (w < 0 ∨ 7 < w) by omega) with rfl | rfl | rfl | rfl | rfl | rfl | rfl | rfl | hw2
  · refine wp_tsi 52 dX11_count_6 (by unfold InR; omega) (by decide) (by decide) rfl (by decide) ?_
    refine wp_aload_n dX11_count_52 rfl ?_
    refine wp_getI dX11_count_53 flX11_272 rfl rfl ?_
    exact wp_iret dX11_count_56 rfl (⟨vi (by simp [qCount, e4]), am, k0.C⟩)
  · refine wp_tsi 57 dX11_count_6 (by unfold InR; omega) (by decide) (by decide) rfl (by decide) ?_
    refine wp_aload_n dX11_count_57 rfl ?_
    refine wp_getI dX11_count_58 flX11_272 rfl rfl ?_
    refine wp_ifne 68 dX11_count_61 (by decide) (by unfold InR; omega) (fun c61 => ?_) (fun c61 => ?_)
    · refine wp_aload_n dX11_count_68 rfl ?_
      refine wp_getI dX11_count_69 flX11_278 rfl rfl ?_
      exact wp_iret dX11_count_72 rfl (⟨vi (by show _ = gA (sG σ); omega), am, k0.C⟩)
    · refine wp_iconst dX11_count_64 ?_
      refine wp_goto 72 dX11_count_65 (by decide) ?_
      exact wp_iret dX11_count_72 rfl (⟨vi (by show _ = gA (sG σ); omega), am, k0.C⟩)
  · refine wp_tsi 73 dX11_count_6 (by unfold InR; omega) (by decide) (by decide) rfl (by decide) ?_
    refine wp_aload_n dX11_count_73 rfl ?_
    refine wp_getI dX11_count_74 flX11_272 rfl rfl ?_
    refine wp_ifne 84 dX11_count_77 (by decide) (by unfold InR; omega) (fun c77 => ?_) (fun c77 => ?_)
    · refine wp_aload_n dX11_count_84 rfl ?_
      refine wp_getI dX11_count_85 flX11_275 rfl rfl ?_
      exact wp_iret dX11_count_88 rfl (⟨vi (by show _ = gK (sG σ); omega), am, k0.C⟩)
    · refine wp_iconst dX11_count_80 ?_
      refine wp_goto 88 dX11_count_81 (by decide) ?_
      exact wp_iret dX11_count_88 rfl (⟨vi (by show _ = gK (sG σ); omega), am, k0.C⟩)
  · refine wp_tsi 89 dX11_count_6 (by unfold InR; omega) (by decide) (by decide) rfl (by decide) ?_
    refine wp_aload_n dX11_count_89 rfl ?_
    refine wp_getI dX11_count_90 flX11_267 rfl rfl ?_
    exact wp_iret dX11_count_93 rfl (⟨vi am.2.1.1, am, k0.C⟩)
  · refine wp_tsi 94 dX11_count_6 (by unfold InR; omega) (by decide) (by decide) rfl (by decide) ?_
    refine wp_aload_n dX11_count_94 rfl ?_
    refine wp_getI dX11_count_95 flX11_112 rfl rfl ?_
    exact wp_iret dX11_count_98 rfl (⟨vi am.1.1, am, k0.C⟩)
  · refine wp_tsi 99 dX11_count_6 (by unfold InR; omega) (by decide) (by decide) rfl (by decide) ?_
    refine wp_aload_n dX11_count_99 rfl ?_
    refine wp_getI dX11_count_100 flX11_55 rfl rfl ?_
    exact wp_iret dX11_count_103 rfl (⟨vi am.2.2.1, am, k0.C⟩)
  · refine wp_tsi 104 dX11_count_6 (by unfold InR; omega) (by decide) (by decide) rfl (by decide) ?_
    refine wp_aload_n dX11_count_104 rfl ?_
    refine wp_getI dX11_count_105 flX11_281 rfl rfl ?_
    exact wp_iret dX11_count_108 rfl (⟨vi am.2.2.2.2.2.1.1, am, k0.C⟩)
  · refine wp_tsi 109 dX11_count_6 (by unfold InR; omega) (by decide) (by decide) rfl (by decide) ?_
    refine wp_aload_n dX11_count_109 rfl ?_
    refine wp_getI dX11_count_110 flX11_284 rfl rfl ?_
    exact wp_iret dX11_count_113 rfl (⟨vi am.2.2.2.2.2.2.1.1, am, k0.C⟩)
  · refine wp_tso 114 dX11_count_6 hw hw2 (by decide) ?_
    refine wp_ldcw (z := -1000000) dX11_count_114 kcX11_313 ?_
    exact wp_iret dX11_count_117 rfl (⟨vi (by unfold qCount; rw [if_neg (by omega), if_neg (by omega), if_neg (by omega), if_neg (by omega), if_neg (by omega), if_neg (by omega), if_neg (by omega), if_neg (by omega)]), am, k0.C⟩)

set_option maxRecDepth 20000 in
theorem S_X11_less {X : Cx} {h : Hp} {σ : Sg} (am : AM h σ) (o : SOK σ)  : Spec X mX11_less 60 [.ref (adr X 47)] h (fun rv h' => rv = some (.int (iI (qLess σ))) ∧ AM h' σ ∧ sameC h h') := by
  refine spec_wp (Nat.le_of_ble_eq_true rfl) (by decide +kernel) ?_
  refine wp_loc [(0, .ref (adr X 47))] ⟨rfl, trivial⟩ ?_
  refine wp_aload_n dX11_less_0 rfl ?_
  refine wp_iconst dX11_less_1 ?_
  refine wp_putI dX11_less_2 plX11_95 rfl rfl ?_
  have k0 : KM h (sI h 47 0 0) := KM.sI (by unfold SMx; omega)
  have am := am.km k0
  generalize sI h 47 0 0 = h0 at *
  have gk := o.2.2.2.1
  have gb := gk.b
  have gkb := gk.2.1
  have e4 : hI h0 47 24 = gP (sG σ) := am.2.2.2.2.1.1
  have e5 : hI h0 47 26 = gA (sG σ) := am.2.2.2.2.1.2.1
  have e6 : hI h0 47 27 = gK (sG σ) := am.2.2.2.2.1.2.2.1
  have em : GM h0 = gE (sG σ) := am.gm
  have ep : gP (GM h0) = gP (sG σ) := e4
  refine wp_aload_n dX11_less_5 rfl ?_
  refine wp_getI dX11_less_6 flX11_272 rfl rfl ?_
  refine wp_ifne 16 dX11_less_9 (by decide) (by unfold InR; omega) (fun c9 => ?_) (fun c9 => ?_)
  · refine wp_aload_n dX11_less_16 rfl ?_
    refine wp_getC dX11_less_17 flX11_43 rfl rfl ?_
    refine wp_iconst dX11_less_20 ?_
    refine wp_iald (n := 4) dX11_less_21 rfl (by omega) (by omega) ?_
    rw [am.sv (l := 0) (by omega)]
    refine wp_aload_n dX11_less_22 rfl ?_
    refine wp_getC dX11_less_23 flX11_43 rfl rfl ?_
    refine wp_iconst dX11_less_26 ?_
    refine wp_iald (n := 4) dX11_less_27 rfl (by omega) (by omega) ?_
    rw [am.sv (l := 1) (by omega)]
    refine wp_iadd dX11_less_28 ?_
    refine wp_aload_n dX11_less_29 rfl ?_
    refine wp_getC dX11_less_30 flX11_43 rfl rfl ?_
    refine wp_iconst dX11_less_33 ?_
    refine wp_iald (n := 4) dX11_less_34 rfl (by omega) (by omega) ?_
    rw [am.sv (l := 2) (by omega)]
    refine wp_iadd dX11_less_35 ?_
    refine wp_aload_n dX11_less_36 rfl ?_
    refine wp_getC dX11_less_37 flX11_43 rfl rfl ?_
    refine wp_iconst dX11_less_40 ?_
    refine wp_iald (n := 4) dX11_less_41 rfl (by omega) (by omega) ?_
    rw [am.sv (l := 3) (by omega)]
    refine wp_iadd dX11_less_42 ?_
    exact wp_iret dX11_less_43 rfl (⟨vi (by unfold qLess; rw [if_neg (by omega)]), am, k0.C⟩)
  · refine wp_iconst dX11_less_12 ?_
    refine wp_goto 43 dX11_less_13 (by decide) ?_
    exact wp_iret dX11_less_43 rfl (⟨vi (by unfold qLess; rw [if_pos (by omega)]), am, k0.C⟩)

set_option maxRecDepth 20000 in
theorem S_X11_sawn {X : Cx} {h : Hp} {σ : Sg} (am : AM h σ) (o : SOK σ) {p w : Int} (hp : InR p) (hw : InR w) : Spec X mX11_sawn 60 [.ref (adr X 47), .int (iI p), .int (iI w)] h (fun rv h' => rv = some (.int (iI (qSawn σ p w))) ∧ AM h' σ ∧ sameC h h') := by
  refine spec_wp (Nat.le_of_ble_eq_true rfl) (by decide +kernel) ?_
  refine wp_loc [(0, .ref (adr X 47)), (1, .int (iI p)), (2, .int (iI w))] ⟨rfl, rfl, rfl, trivial⟩ ?_
  refine wp_aload_n dX11_sawn_0 rfl ?_
  refine wp_iconst dX11_sawn_1 ?_
  refine wp_putI dX11_sawn_2 plX11_95 rfl rfl ?_
  have k0 : KM h (sI h 47 0 0) := KM.sI (by unfold SMx; omega)
  have am := am.km k0
  generalize sI h 47 0 0 = h0 at *
  have gk := o.2.2.2.1
  have gb := gk.b
  have gkb := gk.2.1
  have e4 : hI h0 47 24 = gP (sG σ) := am.2.2.2.2.1.1
  have e5 : hI h0 47 26 = gA (sG σ) := am.2.2.2.2.1.2.1
  have e6 : hI h0 47 27 = gK (sG σ) := am.2.2.2.2.1.2.2.1
  have em : GM h0 = gE (sG σ) := am.gm
  have ep : gP (GM h0) = gP (sG σ) := e4
  obtain ⟨V, hV0⟩ : ∃ V : Int, V = qSawn σ p w := ⟨_, rfl⟩
  rw [← hV0]
  unfold qSawn at hV0
  have vb := gapF_b gk p
  refine wp_aload_n dX11_sawn_5 rfl ?_
  refine wp_iload_n dX11_sawn_6 rfl ?_
  refine wp_callVp dX11_sawn_7 mlX11_290 mvX11_isTurning (S_X11_isTurning (by omega) (by first | assumption | (unfold InR; omega))) rfl rfl (by decide) (by decide) rfl rfl rfl (Nat.le_of_ble_eq_true rfl) ?_
  refine wp_ifeqb 23 dX11_sawn_10 (by decide) (fun c10 => ?_) (fun c10 => ?_)
  · refine wp_iconst dX11_sawn_23 ?_
    exact wp_iret dX11_sawn_24 rfl (⟨vi (by rw [hV0, if_neg (by omega)]), am, k0.C⟩)
  · refine wp_iload_n dX11_sawn_13 rfl ?_
    refine wp_i2lI dX11_sawn_14 (by first | assumption | (unfold InR; omega)) ?_
    refine wp_lconst (v := 0) dX11_sawn_15 rfl ?_
    refine wp_lconst (v := 1) dX11_sawn_16 rfl ?_
    refine wp_callSp dX11_sawn_17 mlX11_219 msX11_isIn (S_X11_isIn (a := w) (b := 0) (c := 1) (by first | (exact InR.L (by assumption)) | (unfold InL; omega)) (by unfold InL; omega) (by unfold InL; omega)) rfl rfl (by decide) (by decide) (Nat.le_of_ble_eq_true rfl) ?_
    refine wp_ifneb 25 dX11_sawn_20 (by decide) (fun c20 => ?_) (fun c20 => ?_)
    · refine wp_aload_n dX11_sawn_25 rfl ?_
      refine wp_iload_n dX11_sawn_26 rfl ?_
      refine wp_callVp dX11_sawn_27 mlX11_310 mvX11_gapOf (S_X11_gapOf (am.b2 o (by omega)) (by omega)) rfl rfl (by decide) (by decide) rfl rfl rfl (Nat.le_of_ble_eq_true rfl) ?_
      rw [em]
      have ub := iabs_b (n := 396) vb
      refine wp_callSp dX11_sawn_30 mlX11_305 msJ9_abs_0f7a4 (S_J9_abs_0f7a4 (a := gapF (sG σ) p) (by unfold InR; omega)) rfl rfl (by decide) (by decide) (Nat.le_of_ble_eq_true rfl) ?_
      obtain ⟨b, hb⟩ : ∃ b, b = iabs (gapF (sG σ) p) := ⟨_, rfl⟩
      rw [← hb]
      rw [← hb] at ub
      refine wp_istore_n dX11_sawn_33 (by decide) ?_
      refine wp_aload_n dX11_sawn_34 rfl ?_
      refine wp_iload_n dX11_sawn_35 rfl ?_
      refine wp_callVp dX11_sawn_36 mlX11_310 mvX11_gapOf (S_X11_gapOf (am.b2 o (by omega)) (by omega)) rfl rfl (by decide) (by decide) rfl rfl rfl (Nat.le_of_ble_eq_true rfl) ?_
      have L : ∀ (n : Nat) (l : Int), (0 ≤ l ∧ 4 ≤ l + 2 * n ∧ l + 2 * n ≤ 5) → (V = sawF (gS (sG σ)) b w n l) → WP X mX11_sawn 60 49 [(0, .ref (adr X 47)), (1, .int (iI p)), (2, .int (iI w)), (3, .int (iI b)), (4, .int (iI l))] [] h0 (fun rv h' => rv = some (.int (iI V)) ∧ AM h' σ ∧ sameC h h') := by
        intro n
        induction n with
        | zero =>
          intro l hn hV
          refine wp_iload dX11_sawn_49 rfl ?_
          refine wp_iconst dX11_sawn_51 ?_
          refine wp_icmpge 86 dX11_sawn_52 (by decide) (by unfold InR; omega) (by unfold InR; omega) (fun c52 => ?_) (fun c52 => ?_)
          · refine wp_iconst dX11_sawn_86 ?_
            exact wp_iret dX11_sawn_87 rfl (⟨vi (by rw [hV]; rfl), am, k0.C⟩)
          · exact absurd c52 (by omega)
        | succ n ih =>
          intro l hn hV
          refine wp_iload dX11_sawn_49 rfl ?_
          refine wp_iconst dX11_sawn_51 ?_
          refine wp_icmpge 86 dX11_sawn_52 (by decide) (by unfold InR; omega) (by unfold InR; omega) (fun c52 => ?_) (fun c52 => ?_)
          · exact absurd c52 (by omega)
          · rw [sawF] at hV
            have sb := gk.s l
            refine wp_aload_n dX11_sawn_55 rfl ?_
            refine wp_getC dX11_sawn_56 flX11_43 rfl rfl ?_
            refine wp_iload dX11_sawn_59 rfl ?_
            refine wp_iald (n := 4) dX11_sawn_61 rfl (by omega) (by omega) ?_
            rw [am.sv (l := l) (by omega)]
            refine wp_iload_n dX11_sawn_62 rfl ?_
            refine wp_iadd dX11_sawn_63 ?_
            refine wp_bipush dX11_sawn_64 rfl ?_
            refine wp_icmpgt 80 dX11_sawn_66 (by decide) (by unfold InR; omega) (by unfold InR; omega) (fun c66 => ?_) (fun c66 => ?_)
            · refine wp_iinc dX11_sawn_80 rfl (by decide) ?_
              refine wp_goto 49 dX11_sawn_83 (by decide) ?_
              rw [if_neg (by omega)] at hV
              refine wp_loc [(0, .ref (adr X 47)), (1, .int (iI p)), (2, .int (iI w)), (3, .int (iI b)), (4, .int (iI (l + 2)))] ⟨rfl, rfl, rfl, rfl, rfl, trivial⟩ ?_
              exact ih (l + 2) (by omega) hV
            · refine wp_iload_n dX11_sawn_69 rfl ?_
              refine wp_ifne 78 dX11_sawn_70 (by decide) hw (fun c70 => ?_) (fun c70 => ?_)
              · refine wp_iload_n dX11_sawn_78 rfl ?_
                exact wp_iret dX11_sawn_79 rfl (⟨vi (by rw [hV, if_pos (by omega), if_neg c70]), am, k0.C⟩)
              · refine wp_iload dX11_sawn_73 rfl ?_
                refine wp_goto 79 dX11_sawn_75 (by decide) ?_
                exact wp_iret dX11_sawn_79 rfl (⟨vi (by rw [hV, if_pos (by omega), if_pos c70]), am, k0.C⟩)
      rw [em]
      rw [show gapF (gE (sG σ)) p = gapF (sG σ) p from rfl]
      refine wp_ifge 46 dX11_sawn_39 (by decide) (by unfold InR; omega) (fun c39 => ?_) (fun c39 => ?_)
      · refine wp_iconst dX11_sawn_46 ?_
        refine wp_istore dX11_sawn_47 (by decide) ?_
        refine wp_loc [(0, .ref (adr X 47)), (1, .int (iI p)), (2, .int (iI w)), (3, .int (iI b)), (4, .int (iI 0))] ⟨rfl, rfl, rfl, rfl, rfl, trivial⟩ ?_
        refine L 2 0 (by omega) ?_
        rw [hV0, if_pos (by omega), hb]
        by_cases z : gapF (sG σ) p = 0
        · rw [if_pos z, z, sawF, if_pos (by have := gk.s 0; show gS (sG σ) 0 + 0 ≤ 99; omega)]
          split <;> rfl
        · rw [if_neg z, if_pos (by omega)]
      · refine wp_iconst dX11_sawn_42 ?_
        refine wp_goto 47 dX11_sawn_43 (by decide) ?_
        refine wp_istore dX11_sawn_47 (by decide) ?_
        refine wp_loc [(0, .ref (adr X 47)), (1, .int (iI p)), (2, .int (iI w)), (3, .int (iI b)), (4, .int (iI 1))] ⟨rfl, rfl, rfl, rfl, rfl, trivial⟩ ?_
        exact L 2 1 (by omega) (by rw [hV0, if_pos (by omega), hb, if_neg (by omega), if_neg (by omega)])
    · refine wp_iconst dX11_sawn_23 ?_
      exact wp_iret dX11_sawn_24 rfl (⟨vi (by rw [hV0, if_neg (by omega)]), am, k0.C⟩)

set_option maxRecDepth 20000 in
theorem S_X11_jug {X : Cx} {h : Hp} {σ : Sg} (am : AM h σ) (o : SOK σ) {p l : Int} (hp : InR p) (hl : InR l) : Spec X mX11_jug 60 [.ref (adr X 47), .int (iI p), .int (iI l)] h (fun rv h' => rv = some (.int (iI (qJug σ p l))) ∧ AM h' σ ∧ sameC h h') := by
  refine spec_wp (Nat.le_of_ble_eq_true rfl) (by decide +kernel) ?_
  refine wp_loc [(0, .ref (adr X 47)), (1, .int (iI p)), (2, .int (iI l))] ⟨rfl, rfl, rfl, trivial⟩ ?_
  refine wp_aload_n dX11_jug_0 rfl ?_
  refine wp_iconst dX11_jug_1 ?_
  refine wp_putI dX11_jug_2 plX11_95 rfl rfl ?_
  have k0 : KM h (sI h 47 0 0) := KM.sI (by unfold SMx; omega)
  have am := am.km k0
  generalize sI h 47 0 0 = h0 at *
  have gk := o.2.2.2.1
  have gb := gk.b
  have gkb := gk.2.1
  have e4 : hI h0 47 24 = gP (sG σ) := am.2.2.2.2.1.1
  have e5 : hI h0 47 26 = gA (sG σ) := am.2.2.2.2.1.2.1
  have e6 : hI h0 47 27 = gK (sG σ) := am.2.2.2.2.1.2.2.1
  have em : GM h0 = gE (sG σ) := am.gm
  have ep : gP (GM h0) = gP (sG σ) := e4
  have vb := gapF_b gk p
  refine wp_aload_n dX11_jug_5 rfl ?_
  refine wp_iload_n dX11_jug_6 rfl ?_
  refine wp_callVp dX11_jug_7 mlX11_290 mvX11_isTurning (S_X11_isTurning (by omega) (by first | assumption | (unfold InR; omega))) rfl rfl (by decide) (by decide) rfl rfl rfl (Nat.le_of_ble_eq_true rfl) ?_
  refine wp_ifeqb 21 dX11_jug_10 (by decide) (fun c10 => ?_) (fun c10 => ?_)
  · refine wp_iconst dX11_jug_21 ?_
    exact wp_iret dX11_jug_22 rfl (⟨vi (by unfold qJug; rw [if_neg (by omega)]), am, k0.C⟩)
  · refine wp_aload_n dX11_jug_13 rfl ?_
    refine wp_iload_n dX11_jug_14 rfl ?_
    refine wp_callVp dX11_jug_15 mlX11_293 mvX11_isLeg (S_X11_isLeg (by omega) (by first | assumption | (unfold InR; omega))) rfl rfl (by decide) (by decide) rfl rfl rfl (Nat.le_of_ble_eq_true rfl) ?_
    refine wp_ifneb 23 dX11_jug_18 (by decide) (fun c18 => ?_) (fun c18 => ?_)
    · refine wp_aload_n dX11_jug_23 rfl ?_
      refine wp_iload_n dX11_jug_24 rfl ?_
      refine wp_callVp dX11_jug_25 mlX11_310 mvX11_gapOf (S_X11_gapOf (am.b2 o (by omega)) (by omega)) rfl rfl (by decide) (by decide) rfl rfl rfl (Nat.le_of_ble_eq_true rfl) ?_
      rw [em]
      rw [show gapF (gE (sG σ)) p = gapF (sG σ) p from rfl]
      generalize hv : gapF (sG σ) p = v at vb
      refine wp_istore_n dX11_jug_28 (by decide) ?_
      refine wp_iload_n dX11_jug_29 rfl ?_
      refine wp_ifne 36 dX11_jug_30 (by decide) (by first | assumption | (unfold InR; omega)) (fun c30 => ?_) (fun c30 => ?_)
      · refine wp_iload_n dX11_jug_36 rfl ?_
        refine wp_ifle 56 dX11_jug_37 (by decide) (by first | assumption | (unfold InR; omega)) (fun c37 => ?_) (fun c37 => ?_)
        · refine wp_bipush dX11_jug_56 rfl ?_
          refine wp_iload_n dX11_jug_58 rfl ?_
          refine wp_iconst dX11_jug_59 ?_
          refine wp_icmpne 67 dX11_jug_60 (by decide) (by first | assumption | (unfold InR; omega)) (by first | assumption | (unfold InR; omega)) (fun c60 => ?_) (fun c60 => ?_)
          · refine wp_iconst dX11_jug_67 ?_
            refine wp_ior dX11_jug_68 ?_
            exact wp_iret dX11_jug_69 rfl (⟨vi (by unfold qJug; rw [if_pos (by omega), hv, if_neg (by omega), if_neg (by omega), if_neg c60]; rfl), am, k0.C⟩)
          · refine wp_iconst dX11_jug_63 ?_
            refine wp_goto 68 dX11_jug_64 (by decide) ?_
            refine wp_ior dX11_jug_68 ?_
            exact wp_iret dX11_jug_69 rfl (⟨vi (by unfold qJug; rw [if_pos (by omega), hv, if_neg (by omega), if_neg (by omega), if_pos c60]; rfl), am, k0.C⟩)
        · refine wp_iconst dX11_jug_40 ?_
          refine wp_iload_n dX11_jug_41 rfl ?_
          refine wp_iconst dX11_jug_42 ?_
          refine wp_icmpne 51 dX11_jug_43 (by decide) (by first | assumption | (unfold InR; omega)) (by first | assumption | (unfold InR; omega)) (fun c43 => ?_) (fun c43 => ?_)
          · refine wp_iconst dX11_jug_51 ?_
            refine wp_ior dX11_jug_52 ?_
            refine wp_goto 69 dX11_jug_53 (by decide) ?_
            exact wp_iret dX11_jug_69 rfl (⟨vi (by unfold qJug; rw [if_pos (by omega), hv, if_neg (by omega), if_pos (by omega), if_neg c43]; rfl), am, k0.C⟩)
          · refine wp_bipush dX11_jug_46 rfl ?_
            refine wp_goto 52 dX11_jug_48 (by decide) ?_
            refine wp_ior dX11_jug_52 ?_
            refine wp_goto 69 dX11_jug_53 (by decide) ?_
            exact wp_iret dX11_jug_69 rfl (⟨vi (by unfold qJug; rw [if_pos (by omega), hv, if_neg (by omega), if_pos (by omega), if_pos c43]; rfl), am, k0.C⟩)
      · refine wp_bipush dX11_jug_33 rfl ?_
        exact wp_iret dX11_jug_35 rfl (⟨vi (by unfold qJug; rw [if_pos (by omega), hv, if_pos (by omega)]), am, k0.C⟩)
    · refine wp_iconst dX11_jug_21 ?_
      exact wp_iret dX11_jug_22 rfl (⟨vi (by unfold qJug; rw [if_neg (by omega)]), am, k0.C⟩)

set_option maxRecDepth 20000 in
theorem S_X11_soup {X : Cx} {h : Hp} {σ : Sg} (am : AM h σ) (o : SOK σ) {v r : Int} (hv : InR v) (hr : InR r) : Spec X mX11_soup 60 [.ref (adr X 47), .int (iI v), .int (iI r)] h (fun rv h' => rv = some (.int (iI (qSoup σ v r))) ∧ AM h' σ ∧ sameC h h') := by
  refine spec_wp (Nat.le_of_ble_eq_true rfl) (by decide +kernel) ?_
  refine wp_loc [(0, .ref (adr X 47)), (1, .int (iI v)), (2, .int (iI r))] ⟨rfl, rfl, rfl, trivial⟩ ?_
  refine wp_aload_n dX11_soup_0 rfl ?_
  refine wp_iconst dX11_soup_1 ?_
  refine wp_putI dX11_soup_2 plX11_95 rfl rfl ?_
  have k0 : KM h (sI h 47 0 0) := KM.sI (by unfold SMx; omega)
  have am := am.km k0
  generalize sI h 47 0 0 = h0 at *
  have gk := o.2.2.2.1
  have gb := gk.b
  have gkb := gk.2.1
  have e4 : hI h0 47 24 = gP (sG σ) := am.2.2.2.2.1.1
  have e5 : hI h0 47 26 = gA (sG σ) := am.2.2.2.2.1.2.1
  have e6 : hI h0 47 27 = gK (sG σ) := am.2.2.2.2.1.2.2.1
  have em : GM h0 = gE (sG σ) := am.gm
  have ep : gP (GM h0) = gP (sG σ) := e4
  obtain ⟨V, hV0⟩ : ∃ V : Int, V = qSoup σ v r := ⟨_, rfl⟩
  rw [← hV0]
  unfold qSoup at hV0
  refine wp_aload_n dX11_soup_5 rfl ?_
  refine wp_getI dX11_soup_6 flX11_272 rfl rfl ?_
  refine wp_ifeq 36 dX11_soup_9 (by decide) (by first | assumption | (unfold InR; omega)) (fun c9 => ?_) (fun c9 => ?_)
  · refine wp_iconst dX11_soup_36 ?_
    exact wp_iret dX11_soup_37 rfl (⟨vi (by rw [hV0, if_neg (by omega)]), am, k0.C⟩)
  · refine wp_iload_n dX11_soup_12 rfl ?_
    refine wp_i2lI dX11_soup_13 (by first | assumption | (unfold InR; omega)) ?_
    refine wp_lconst (v := 0) dX11_soup_14 rfl ?_
    refine wp_ldc2 (v := 99) dX11_soup_15 klX11_376 ?_
    refine wp_callSp dX11_soup_18 mlX11_219 msX11_isIn (S_X11_isIn (a := v) (b := 0) (c := 99) (by first | (exact InR.L (by assumption)) | (unfold InL; omega)) (by unfold InL; omega) (by unfold InL; omega)) rfl rfl (by decide) (by decide) (Nat.le_of_ble_eq_true rfl) ?_
    refine wp_ifeqb 36 dX11_soup_21 (by decide) (fun c21 => ?_) (fun c21 => ?_)
    · refine wp_iconst dX11_soup_36 ?_
      exact wp_iret dX11_soup_37 rfl (⟨vi (by rw [hV0, if_neg (by omega)]), am, k0.C⟩)
    · refine wp_iload_n dX11_soup_24 rfl ?_
      refine wp_i2lI dX11_soup_25 (by first | assumption | (unfold InR; omega)) ?_
      refine wp_lconst (v := 0) dX11_soup_26 rfl ?_
      refine wp_ldc2 (v := 99) dX11_soup_27 klX11_376 ?_
      refine wp_callSp dX11_soup_30 mlX11_219 msX11_isIn (S_X11_isIn (a := r) (b := 0) (c := 99) (by first | (exact InR.L (by assumption)) | (unfold InL; omega)) (by unfold InL; omega) (by unfold InL; omega)) rfl rfl (by decide) (by decide) (Nat.le_of_ble_eq_true rfl) ?_
      refine wp_ifneb 38 dX11_soup_33 (by decide) (fun c33 => ?_) (fun c33 => ?_)
      · refine wp_iconst dX11_soup_38 ?_
        refine wp_istore_n dX11_soup_39 (by decide) ?_
        refine wp_iconst dX11_soup_40 ?_
        refine wp_istore dX11_soup_41 (by decide) ?_
        have L : ∀ (n : Nat) (p c : Int), (p + n = gP (sG σ)) → (0 ≤ p ∧ 0 ≤ c) → (V = cntF (soupB (sG σ) v r) n p c) → WP X mX11_soup 60 43 [(0, .ref (adr X 47)), (1, .int (iI v)), (2, .int (iI r)), (3, .int (iI c)), (4, .int (iI p))] [] h0 (fun rv h' => rv = some (.int (iI V)) ∧ AM h' σ ∧ sameC h h') := by
          intro n
          induction n with
          | zero =>
            intro p c hn hp hV
            refine wp_iload dX11_soup_43 rfl ?_
            refine wp_aload_n dX11_soup_45 rfl ?_
            refine wp_getI dX11_soup_46 flX11_272 rfl rfl ?_
            refine wp_icmpge 89 dX11_soup_49 (by decide) (by first | assumption | (unfold InR; omega)) (by first | assumption | (unfold InR; omega)) (fun c49 => ?_) (fun c49 => ?_)
            · refine wp_iload_n dX11_soup_89 rfl ?_
              exact wp_iret dX11_soup_90 rfl (⟨vi (by rw [hV]; rfl), am, k0.C⟩)
            · exact absurd c49 (by omega)
          | succ n ih =>
            intro p c hn hp hV
            refine wp_iload dX11_soup_43 rfl ?_
            refine wp_aload_n dX11_soup_45 rfl ?_
            refine wp_getI dX11_soup_46 flX11_272 rfl rfl ?_
            refine wp_icmpge 89 dX11_soup_49 (by decide) (by first | assumption | (unfold InR; omega)) (by first | assumption | (unfold InR; omega)) (fun c49 => ?_) (fun c49 => ?_)
            · exact absurd c49 (by omega)
            · refine wp_iload_n dX11_soup_52 rfl ?_
              refine wp_aload_n dX11_soup_53 rfl ?_
              refine wp_iload dX11_soup_54 rfl ?_
              refine wp_callVp dX11_soup_56 mlX11_310 mvX11_gapOf (S_X11_gapOf (am.b2 o (by omega)) (by omega)) rfl rfl (by decide) (by decide) rfl rfl rfl (Nat.le_of_ble_eq_true rfl) ?_
              rw [em]
              have vb := gapF_b gk p
              have ub := iabs_b (n := 396) vb
              refine wp_callSp dX11_soup_59 mlX11_305 msJ9_abs_0f7a4 (S_J9_abs_0f7a4 (a := gapF (sG σ) p) (by unfold InR; omega)) rfl rfl (by decide) (by decide) (Nat.le_of_ble_eq_true rfl) ?_
              refine wp_iload_n dX11_soup_62 rfl ?_
              refine wp_icmpgt 80 dX11_soup_63 (by decide) (by first | assumption | (unfold InR; omega)) (by first | assumption | (unfold InR; omega)) (fun c63 => ?_) (fun c63 => ?_)
              · refine wp_iconst dX11_soup_80 ?_
                refine wp_iadd dX11_soup_81 ?_
                refine wp_istore_n dX11_soup_82 (by decide) ?_
                refine wp_iinc dX11_soup_83 rfl (by decide) ?_
                refine wp_goto 43 dX11_soup_86 (by decide) ?_
                refine wp_loc [(0, .ref (adr X 47)), (1, .int (iI v)), (2, .int (iI r)), (3, .int (iI _)), (4, .int (iI (p + 1)))] ⟨rfl, rfl, rfl, rfl, rfl, trivial⟩ ?_
                exact ih (p + 1) _ (by omega) (by omega) (hV.trans (by rw [cntF]; simp only [soupB]; first | (simp [Int.not_lt.mp c63, Int.not_lt.mp c73]; done) | (simp [Int.not_le.mpr c73]; done) | (simp [Int.not_le.mpr c63]; done)))
              · refine wp_aload_n dX11_soup_66 rfl ?_
                refine wp_iload dX11_soup_67 rfl ?_
                refine wp_callVp dX11_soup_69 mlX11_314 mvX11_tiltOf (S_X11_tiltOf (am.b2 o (by omega)) (by omega)) rfl rfl (by decide) (by decide) rfl rfl rfl (Nat.le_of_ble_eq_true rfl) ?_
                rw [em]
                rw [show tltF (gE (sG σ)) p = tltF (sG σ) p from rfl]
                have tb := tltF_b gk p
                refine wp_iload_n dX11_soup_72 rfl ?_
                refine wp_icmpgt 80 dX11_soup_73 (by decide) (by first | assumption | (unfold InR; omega)) (by first | assumption | (unfold InR; omega)) (fun c73 => ?_) (fun c73 => ?_)
                · refine wp_iconst dX11_soup_80 ?_
                  refine wp_iadd dX11_soup_81 ?_
                  refine wp_istore_n dX11_soup_82 (by decide) ?_
                  refine wp_iinc dX11_soup_83 rfl (by decide) ?_
                  refine wp_goto 43 dX11_soup_86 (by decide) ?_
                  refine wp_loc [(0, .ref (adr X 47)), (1, .int (iI v)), (2, .int (iI r)), (3, .int (iI _)), (4, .int (iI (p + 1)))] ⟨rfl, rfl, rfl, rfl, rfl, trivial⟩ ?_
                  exact ih (p + 1) _ (by omega) (by omega) (hV.trans (by rw [cntF]; simp only [soupB]; first | (simp [Int.not_lt.mp c63, Int.not_lt.mp c73]; done) | (simp [Int.not_le.mpr c73]; done) | (simp [Int.not_le.mpr c63]; done)))
                · refine wp_iconst dX11_soup_76 ?_
                  refine wp_goto 81 dX11_soup_77 (by decide) ?_
                  refine wp_iadd dX11_soup_81 ?_
                  refine wp_istore_n dX11_soup_82 (by decide) ?_
                  refine wp_iinc dX11_soup_83 rfl (by decide) ?_
                  refine wp_goto 43 dX11_soup_86 (by decide) ?_
                  refine wp_loc [(0, .ref (adr X 47)), (1, .int (iI v)), (2, .int (iI r)), (3, .int (iI _)), (4, .int (iI (p + 1)))] ⟨rfl, rfl, rfl, rfl, rfl, trivial⟩ ?_
                  exact ih (p + 1) _ (by omega) (by omega) (hV.trans (by rw [cntF]; simp only [soupB]; first | (simp [Int.not_lt.mp c63, Int.not_lt.mp c73]; done) | (simp [Int.not_le.mpr c73]; done) | (simp [Int.not_le.mpr c63]; done)))
        refine wp_loc [(0, .ref (adr X 47)), (1, .int (iI v)), (2, .int (iI r)), (3, .int (iI 0)), (4, .int (iI 0))] ⟨rfl, rfl, rfl, rfl, rfl, trivial⟩ ?_
        exact L (gP (sG σ)).toNat 0 0 (by omega) (by omega) (by rw [hV0, if_pos (by omega)])
      · refine wp_iconst dX11_soup_36 ?_
        exact wp_iret dX11_soup_37 rfl (⟨vi (by rw [hV0, if_neg (by omega)]), am, k0.C⟩)

