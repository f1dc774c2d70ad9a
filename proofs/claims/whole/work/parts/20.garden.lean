/-! small numbers; the garden's own methods -/
def iabs (x : Int) : Int := if 0 ≤ x then x else -x
def sgn (x : Int) : Int := if x < 0 then -1 else if x = 0 then 0 else 1
def arnd (P p : Int) : Int := if P ≤ p then p - P else p
def ptB (P A p leg : Int) : Int := if leg % 2 = 0 then (if leg < 2 then p else arnd P (p + P / 2)) else (if leg < 2 then arnd P (p + A) else arnd P (arnd P (p + A) + P / 2))
def htO (h : Hp) (a : Nat) (p : Int) : Int := if 0 ≤ p ∧ p < hI h a 4 then hI h (a + 1) p.toNat else 0
def shO (h : Hp) (a : Nat) (l : Int) : Int := if 0 ≤ l ∧ l < 4 then hI h (a + 2) l.toNat else 0
def rch (h : Hp) (a : Nat) (p l : Int) : Int := htO h a (ptB (hI h a 4) (hI h a 5) p l) - shO h a l
/-- a garden's numbers are in their bounds -/
def GB (h : Hp) (a : Nat) : Prop := isG a ∧ 0 ≤ hI h a 4 ∧ hI h a 4 ≤ 24 ∧ 0 ≤ hI h a 5 ∧ hI h a 5 ≤ 11 ∧ (∀ i : Nat, i < 24 → 0 ≤ hI h (a + 1) i ∧ hI h (a + 1) i ≤ 99) ∧ (∀ i : Nat, i < 4 → 0 ≤ hI h (a + 2) i ∧ hI h (a + 2) i ≤ 99)
theorem htO_b {h : Hp} {a : Nat} (g : GB h a) (p : Int) : 0 ≤ htO h a p ∧ htO h a p ≤ 99 := by
  unfold htO
  split
  · rename_i hp
    exact g.2.2.2.2.2.1 p.toNat (by have := g.2.2.1; omega)
  · omega
theorem shO_b {h : Hp} {a : Nat} (g : GB h a) (l : Int) : 0 ≤ shO h a l ∧ shO h a l ≤ 99 := by
  unfold shO
  split
  · exact g.2.2.2.2.2.2 l.toNat (by omega)
  · omega
theorem rch_b {h : Hp} {a : Nat} (g : GB h a) (p l : Int) : -99 ≤ rch h a p l ∧ rch h a p l ≤ 99 := by
  have h1 := htO_b g (ptB (hI h a 4) (hI h a 5) p l)
  have h2 := shO_b g l
  unfold rch
  omega

set_option maxRecDepth 20000 in
theorem S_J9_max_7cf53 {X : Cx} {h : Hp} {a b : Int} (ha : InR a) (hb : InR b) : Spec X mJ9_max_7cf53 0 [.int (iI a), .int (iI b)] h (fun rv h' => rv = some (.int (iI (max a b))) ∧ h' = h) := by
  refine spec_wpF (Nat.le_of_ble_eq_true rfl) (by decide +kernel) ?_
  refine wp_loc [(0, .int (iI a)), (1, .int (iI b))] ⟨rfl, rfl, trivial⟩ ?_
  refine wp_iload_n dJ9_max_7cf53_0 rfl ?_
  refine wp_iload_n dJ9_max_7cf53_1 rfl ?_
  refine wp_icmplt 9 dJ9_max_7cf53_2 (by decide) (by assumption) (by assumption) (fun c2 => ?_) (fun c2 => ?_)
  · refine wp_iload_n dJ9_max_7cf53_9 rfl ?_
    exact wp_iret dJ9_max_7cf53_10 rfl (⟨vi (by omega), rfl⟩)
  · refine wp_iload_n dJ9_max_7cf53_5 rfl ?_
    refine wp_goto 10 dJ9_max_7cf53_6 (by decide) ?_
    exact wp_iret dJ9_max_7cf53_10 rfl (⟨vi (by omega), rfl⟩)

set_option maxRecDepth 20000 in
theorem S_J9_min_7cf53 {X : Cx} {h : Hp} {a b : Int} (ha : InR a) (hb : InR b) : Spec X mJ9_min_7cf53 0 [.int (iI a), .int (iI b)] h (fun rv h' => rv = some (.int (iI (min a b))) ∧ h' = h) := by
  refine spec_wpF (Nat.le_of_ble_eq_true rfl) (by decide +kernel) ?_
  refine wp_loc [(0, .int (iI a)), (1, .int (iI b))] ⟨rfl, rfl, trivial⟩ ?_
  refine wp_iload_n dJ9_min_7cf53_0 rfl ?_
  refine wp_iload_n dJ9_min_7cf53_1 rfl ?_
  refine wp_icmpgt 9 dJ9_min_7cf53_2 (by decide) (by assumption) (by assumption) (fun c2 => ?_) (fun c2 => ?_)
  · refine wp_iload_n dJ9_min_7cf53_9 rfl ?_
    exact wp_iret dJ9_min_7cf53_10 rfl (⟨vi (by omega), rfl⟩)
  · refine wp_iload_n dJ9_min_7cf53_5 rfl ?_
    refine wp_goto 10 dJ9_min_7cf53_6 (by decide) ?_
    exact wp_iret dJ9_min_7cf53_10 rfl (⟨vi (by omega), rfl⟩)

set_option maxRecDepth 20000 in
theorem S_J9_abs_0f7a4 {X : Cx} {h : Hp} {a : Int} (ha : InR a) : Spec X mJ9_abs_0f7a4 0 [.int (iI a)] h (fun rv h' => rv = some (.int (iI (iabs a))) ∧ h' = h) := by
  refine spec_wpF (Nat.le_of_ble_eq_true rfl) (by decide +kernel) ?_
  refine wp_loc [(0, .int (iI a))] ⟨rfl, trivial⟩ ?_
  refine wp_iload_n dJ9_abs_0f7a4_0 rfl ?_
  refine wp_ifge 9 dJ9_abs_0f7a4_1 (by decide) (by assumption) (fun c1 => ?_) (fun c1 => ?_)
  · refine wp_iload_n dJ9_abs_0f7a4_9 rfl ?_
    exact wp_iret dJ9_abs_0f7a4_10 rfl (⟨vi (by unfold iabs; split <;> omega), rfl⟩)
  · refine wp_iload_n dJ9_abs_0f7a4_4 rfl ?_
    refine wp_ineg dJ9_abs_0f7a4_5 ?_
    refine wp_goto 10 dJ9_abs_0f7a4_6 (by decide) ?_
    exact wp_iret dJ9_abs_0f7a4_10 rfl (⟨vi (by unfold iabs; split <;> omega), rfl⟩)

set_option maxRecDepth 20000 in
theorem S_X10_isLeg {X : Cx} {h : Hp} {l : Int} (hl : InR l) : Spec X mX10_isLeg 0 [.int (iI l)] h (fun rv h' => rv = some (.int (iI (b2i (0 ≤ l ∧ l < 4)))) ∧ h' = h) := by
  refine spec_wp (Nat.le_of_ble_eq_true rfl) (by decide +kernel) ?_
  refine wp_loc [(0, .int (iI l))] ⟨rfl, trivial⟩ ?_
  refine wp_iload_n dX10_isLeg_0 rfl ?_
  refine wp_iflt 13 dX10_isLeg_1 (by decide) (by first | assumption | (unfold InR; omega)) (fun c1 => ?_) (fun c1 => ?_)
  · refine wp_iconst dX10_isLeg_13 ?_
    exact wp_zret dX10_isLeg_14 rfl (by omega) (⟨by first | exact vb1 (by omega) | exact vb0 (by omega), rfl⟩)
  · refine wp_iload_n dX10_isLeg_4 rfl ?_
    refine wp_iconst dX10_isLeg_5 ?_
    refine wp_icmpge 13 dX10_isLeg_6 (by decide) (by first | assumption | (unfold InR; omega)) (by first | assumption | (unfold InR; omega)) (fun c6 => ?_) (fun c6 => ?_)
    · refine wp_iconst dX10_isLeg_13 ?_
      exact wp_zret dX10_isLeg_14 rfl (by omega) (⟨by first | exact vb1 (by omega) | exact vb0 (by omega), rfl⟩)
    · refine wp_iconst dX10_isLeg_9 ?_
      refine wp_goto 14 dX10_isLeg_10 (by decide) ?_
      exact wp_zret dX10_isLeg_14 rfl (by omega) (⟨by first | exact vb1 (by omega) | exact vb0 (by omega), rfl⟩)

set_option maxRecDepth 20000 in
theorem S_X10_isTold {X : Cx} {h : Hp} {l : Int} (hl : InR l) : Spec X mX10_isTold 0 [.int (iI l)] h (fun rv h' => rv = some (.int (iI (b2i (0 ≤ l ∧ l ≤ 99)))) ∧ h' = h) := by
  refine spec_wp (Nat.le_of_ble_eq_true rfl) (by decide +kernel) ?_
  refine wp_loc [(0, .int (iI l))] ⟨rfl, trivial⟩ ?_
  refine wp_iload_n dX10_isTold_0 rfl ?_
  refine wp_iflt 14 dX10_isTold_1 (by decide) (by first | assumption | (unfold InR; omega)) (fun c1 => ?_) (fun c1 => ?_)
  · refine wp_iconst dX10_isTold_14 ?_
    exact wp_zret dX10_isTold_15 rfl (by omega) (⟨by first | exact vb1 (by omega) | exact vb0 (by omega), rfl⟩)
  · refine wp_iload_n dX10_isTold_4 rfl ?_
    refine wp_bipush dX10_isTold_5 rfl ?_
    refine wp_icmpgt 14 dX10_isTold_7 (by decide) (by first | assumption | (unfold InR; omega)) (by first | assumption | (unfold InR; omega)) (fun c7 => ?_) (fun c7 => ?_)
    · refine wp_iconst dX10_isTold_14 ?_
      exact wp_zret dX10_isTold_15 rfl (by omega) (⟨by first | exact vb1 (by omega) | exact vb0 (by omega), rfl⟩)
    · refine wp_iconst dX10_isTold_10 ?_
      refine wp_goto 15 dX10_isTold_11 (by decide) ?_
      exact wp_zret dX10_isTold_15 rfl (by omega) (⟨by first | exact vb1 (by omega) | exact vb0 (by omega), rfl⟩)

set_option maxRecDepth 20000 in
theorem S_X3_has {X : Cx} {h : Hp} {a : Nat} {p : Int} (g : GB h a) (hp : InR p) : Spec X mX3_has 0 [.ref (adr X a), .int (iI p)] h (fun rv h' => rv = some (.int (iI (b2i (0 ≤ p ∧ p < hI h a 4)))) ∧ h' = h) := by
  have hG := g.1
  have g1 := g.2.1
  have g2 := g.2.2.1
  have g3 := g.2.2.2.1
  have g4 := g.2.2.2.2.1
  refine spec_wp (Nat.le_of_ble_eq_true rfl) (by decide +kernel) ?_
  refine wp_loc [(0, .ref (adr X a)), (1, .int (iI p))] ⟨rfl, rfl, trivial⟩ ?_
  refine wp_iload_n dX3_has_0 rfl ?_
  refine wp_iflt 22 dX3_has_1 (by decide) (by first | assumption | (unfold InR; omega)) (fun c1 => ?_) (fun c1 => ?_)
  · refine wp_iconst dX3_has_22 ?_
    exact wp_zret dX3_has_23 rfl (by omega) (⟨by first | exact vb1 (by omega) | exact vb0 (by omega), rfl⟩)
  · refine wp_iload_n dX3_has_4 rfl ?_
    refine wp_aload_n dX3_has_5 rfl ?_
    refine wp_getI dX3_has_6 flX3_24 (gs0 hG) rfl ?_
    refine wp_icmpge 22 dX3_has_9 (by decide) (by first | assumption | (unfold InR; omega)) (by first | assumption | (unfold InR; omega)) (fun c9 => ?_) (fun c9 => ?_)
    · refine wp_iconst dX3_has_22 ?_
      exact wp_zret dX3_has_23 rfl (by omega) (⟨by first | exact vb1 (by omega) | exact vb0 (by omega), rfl⟩)
    · refine wp_iload_n dX3_has_12 rfl ?_
      refine wp_bipush dX3_has_13 rfl ?_
      refine wp_icmpge 22 dX3_has_15 (by decide) (by first | assumption | (unfold InR; omega)) (by first | assumption | (unfold InR; omega)) (fun c15 => ?_) (fun c15 => ?_)
      · refine wp_iconst dX3_has_22 ?_
        exact wp_zret dX3_has_23 rfl (by omega) (⟨by first | exact vb1 (by omega) | exact vb0 (by omega), rfl⟩)
      · refine wp_iconst dX3_has_18 ?_
        refine wp_goto 23 dX3_has_19 (by decide) ?_
        exact wp_zret dX3_has_23 rfl (by omega) (⟨by first | exact vb1 (by omega) | exact vb0 (by omega), rfl⟩)

set_option maxRecDepth 20000 in
theorem S_X3_around {X : Cx} {h : Hp} {a : Nat} {p : Int} (g : GB h a) (hp : InR p) : Spec X mX3_around 0 [.ref (adr X a), .int (iI p)] h (fun rv h' => rv = some (.int (iI (arnd (hI h a 4) p))) ∧ h' = h) := by
  have hG := g.1
  have g1 := g.2.1
  have g2 := g.2.2.1
  have g3 := g.2.2.2.1
  have g4 := g.2.2.2.2.1
  refine spec_wp (Nat.le_of_ble_eq_true rfl) (by decide +kernel) ?_
  refine wp_loc [(0, .ref (adr X a)), (1, .int (iI p))] ⟨rfl, rfl, trivial⟩ ?_
  refine wp_iload_n dX3_around_0 rfl ?_
  refine wp_aload_n dX3_around_1 rfl ?_
  refine wp_getI dX3_around_2 flX3_24 (gs0 hG) rfl ?_
  refine wp_icmplt 17 dX3_around_5 (by decide) (by first | assumption | (unfold InR; omega)) (by first | assumption | (unfold InR; omega)) (fun c5 => ?_) (fun c5 => ?_)
  · refine wp_iload_n dX3_around_17 rfl ?_
    exact wp_iret dX3_around_18 rfl (⟨vi (by unfold arnd; split <;> omega), rfl⟩)
  · refine wp_iload_n dX3_around_8 rfl ?_
    refine wp_aload_n dX3_around_9 rfl ?_
    refine wp_getI dX3_around_10 flX3_24 (gs0 hG) rfl ?_
    refine wp_isub dX3_around_13 ?_
    refine wp_goto 18 dX3_around_14 (by decide) ?_
    exact wp_iret dX3_around_18 rfl (⟨vi (by unfold arnd; split <;> omega), rfl⟩)

set_option maxRecDepth 20000 in
theorem S_X3_heightOf {X : Cx} {h : Hp} {a : Nat} {p : Int} (g : GB h a) (hp : InR p) : Spec X mX3_heightOf 1 [.ref (adr X a), .int (iI p)] h (fun rv h' => rv = some (.int (iI (htO h a p))) ∧ h' = h) := by
  have hG := g.1
  have g1 := g.2.1
  have g2 := g.2.2.1
  have g3 := g.2.2.2.1
  have g4 := g.2.2.2.2.1
  refine spec_wp (Nat.le_of_ble_eq_true rfl) (by decide +kernel) ?_
  refine wp_loc [(0, .ref (adr X a)), (1, .int (iI p))] ⟨rfl, rfl, trivial⟩ ?_
  refine wp_aload_n dX3_heightOf_0 rfl ?_
  refine wp_iload_n dX3_heightOf_1 rfl ?_
  refine wp_callVp dX3_heightOf_2 mlX3_40 mvX3_has (S_X3_has g (by first | assumption | (unfold InR; omega))) rfl rfl (by decide) (by decide) (gs0 hG) rfl rfl (Nat.le_of_ble_eq_true rfl) ?_
  refine wp_ifeqb 17 dX3_heightOf_5 (by decide) (fun c5 => ?_) (fun c5 => ?_)
  · refine wp_iconst dX3_heightOf_17 ?_
    exact wp_iret dX3_heightOf_18 rfl (⟨vi (by unfold htO; split <;> first | rfl | omega), rfl⟩)
  · refine wp_aload_n dX3_heightOf_8 rfl ?_
    refine wp_getC dX3_heightOf_9 flX3_9 (gs0 hG) rfl ?_
    refine wp_iload_n dX3_heightOf_12 rfl ?_
    refine wp_iald dX3_heightOf_13 (by first | rfl | exact gs1 hG | exact gs2 hG | exact gs3 hG | exact gs4 hG | exact ws1 hW | exact ws2 hW | assumption) (by omega) (by omega) ?_
    refine wp_goto 18 dX3_heightOf_14 (by decide) ?_
    exact wp_iret dX3_heightOf_18 rfl (⟨vi (by unfold htO; split <;> first | rfl | omega), rfl⟩)

set_option maxRecDepth 20000 in
theorem S_X3_shortOf {X : Cx} {h : Hp} {a : Nat} {l : Int} (g : GB h a) (hl : InR l) : Spec X mX3_shortOf 1 [.ref (adr X a), .int (iI l)] h (fun rv h' => rv = some (.int (iI (shO h a l))) ∧ h' = h) := by
  have hG := g.1
  have g1 := g.2.1
  have g2 := g.2.2.1
  have g3 := g.2.2.2.1
  have g4 := g.2.2.2.2.1
  refine spec_wp (Nat.le_of_ble_eq_true rfl) (by decide +kernel) ?_
  refine wp_loc [(0, .ref (adr X a)), (1, .int (iI l))] ⟨rfl, rfl, trivial⟩ ?_
  refine wp_iload_n dX3_shortOf_0 rfl ?_
  refine wp_callNp dX3_shortOf_1 (by first | exact Or.inl ⟨rfl, rfl, rfl⟩ | exact Or.inr ⟨rfl, rfl, rfl⟩) msX10_isLeg (S_X10_isLeg (by first | assumption | (unfold InR; omega))) rfl rfl (by decide) (by decide) (Nat.le_of_ble_eq_true rfl) ?_
  refine wp_ifeqb 16 dX3_shortOf_4 (by decide) (fun c4 => ?_) (fun c4 => ?_)
  · refine wp_iconst dX3_shortOf_16 ?_
    exact wp_iret dX3_shortOf_17 rfl (⟨vi (by unfold shO; split <;> first | rfl | omega), rfl⟩)
  · refine wp_aload_n dX3_shortOf_7 rfl ?_
    refine wp_getC dX3_shortOf_8 flX3_15 (gs0 hG) rfl ?_
    refine wp_iload_n dX3_shortOf_11 rfl ?_
    refine wp_iald dX3_shortOf_12 (by first | rfl | exact gs1 hG | exact gs2 hG | exact gs3 hG | exact gs4 hG | exact ws1 hW | exact ws2 hW | assumption) (by omega) (by omega) ?_
    refine wp_goto 17 dX3_shortOf_13 (by decide) ?_
    exact wp_iret dX3_shortOf_17 rfl (⟨vi (by unfold shO; split <;> first | rfl | omega), rfl⟩)

set_option maxRecDepth 20000 in
theorem S_X3_pointBeneath {X : Cx} {h : Hp} {a : Nat} {p l : Int} (g : GB h a) (hp : 0 ≤ p ∧ p ≤ 100) (hl : 0 ≤ l ∧ l ≤ 3) : Spec X mX3_pointBeneath 1 [.ref (adr X a), .int (iI p), .int (iI l)] h (fun rv h' => rv = some (.int (iI (ptB (hI h a 4) (hI h a 5) p l))) ∧ h' = h) := by
  have hG := g.1
  have g1 := g.2.1
  have g2 := g.2.2.1
  have g3 := g.2.2.2.1
  have g4 := g.2.2.2.2.1
  refine spec_wp (Nat.le_of_ble_eq_true rfl) (by decide +kernel) ?_
  refine wp_loc [(0, .ref (adr X a)), (1, .int (iI p)), (2, .int (iI l))] ⟨rfl, rfl, rfl, trivial⟩ ?_
  refine wp_iload_n dX3_pointBeneath_0 rfl ?_
  refine wp_iconst dX3_pointBeneath_1 ?_
  refine wp_iremp dX3_pointBeneath_2 (by omega) (by omega) (by unfold InR; omega) (by unfold InR; omega) ?_
  refine wp_ifne 10 dX3_pointBeneath_3 (by decide) (by unfold InR; omega) (fun c3 => ?_) (fun c3 => ?_)
  · refine wp_aload_n dX3_pointBeneath_10 rfl ?_
    refine wp_iload_n dX3_pointBeneath_11 rfl ?_
    refine wp_aload_n dX3_pointBeneath_12 rfl ?_
    refine wp_getI dX3_pointBeneath_13 flX3_28 (gs0 hG) rfl ?_
    refine wp_iadd dX3_pointBeneath_16 ?_
    refine wp_callVp dX3_pointBeneath_17 mlX3_47 mvX3_around (S_X3_around g (by first | assumption | (unfold InR; omega))) rfl rfl (by decide) (by decide) (gs0 hG) rfl rfl (Nat.le_of_ble_eq_true rfl) ?_
    refine wp_istore_n dX3_pointBeneath_20 (by decide) ?_
    refine wp_iload_n dX3_pointBeneath_21 rfl ?_
    refine wp_iconst dX3_pointBeneath_22 ?_
    refine wp_icmpge 30 dX3_pointBeneath_23 (by decide) (by unfold InR; omega) (by unfold InR; omega) (fun c23 => ?_) (fun c23 => ?_)
    · have e9 : 0 ≤ hI h a 4 / 2 ∧ hI h a 4 / 2 ≤ 24 := by omega
      have e8 : arnd (hI h a 4) (p + hI h a 5) ≤ 200 ∧ -200 ≤ arnd (hI h a 4) (p + hI h a 5) := by unfold arnd; split <;> omega
      refine wp_aload_n dX3_pointBeneath_30 rfl ?_
      refine wp_iload_n dX3_pointBeneath_31 rfl ?_
      refine wp_aload_n dX3_pointBeneath_32 rfl ?_
      refine wp_getI dX3_pointBeneath_33 flX3_24 (gs0 hG) rfl ?_
      refine wp_iconst dX3_pointBeneath_36 ?_
      refine wp_idivp dX3_pointBeneath_37 (by omega) (by omega) (by unfold InR; omega) (by unfold InR; omega) ?_
      refine wp_iadd dX3_pointBeneath_38 ?_
      refine wp_callVp dX3_pointBeneath_39 mlX3_47 mvX3_around (S_X3_around g (by first | assumption | (unfold InR; omega))) rfl rfl (by decide) (by decide) (gs0 hG) rfl rfl (Nat.le_of_ble_eq_true rfl) ?_
      exact wp_iret dX3_pointBeneath_42 rfl (⟨vi (by unfold ptB; (repeat' split) <;> first | rfl | omega), rfl⟩)
    · refine wp_iload_n dX3_pointBeneath_26 rfl ?_
      refine wp_goto 42 dX3_pointBeneath_27 (by decide) ?_
      exact wp_iret dX3_pointBeneath_42 rfl (⟨vi (by unfold ptB; (repeat' split) <;> first | rfl | omega), rfl⟩)
  · refine wp_iload_n dX3_pointBeneath_6 rfl ?_
    refine wp_goto 20 dX3_pointBeneath_7 (by decide) ?_
    refine wp_istore_n dX3_pointBeneath_20 (by decide) ?_
    refine wp_iload_n dX3_pointBeneath_21 rfl ?_
    refine wp_iconst dX3_pointBeneath_22 ?_
    refine wp_icmpge 30 dX3_pointBeneath_23 (by decide) (by unfold InR; omega) (by unfold InR; omega) (fun c23 => ?_) (fun c23 => ?_)
    · have e9 : 0 ≤ hI h a 4 / 2 ∧ hI h a 4 / 2 ≤ 24 := by omega
      have e8 : arnd (hI h a 4) (p + hI h a 5) ≤ 200 ∧ -200 ≤ arnd (hI h a 4) (p + hI h a 5) := by unfold arnd; split <;> omega
      refine wp_aload_n dX3_pointBeneath_30 rfl ?_
      refine wp_iload_n dX3_pointBeneath_31 rfl ?_
      refine wp_aload_n dX3_pointBeneath_32 rfl ?_
      refine wp_getI dX3_pointBeneath_33 flX3_24 (gs0 hG) rfl ?_
      refine wp_iconst dX3_pointBeneath_36 ?_
      refine wp_idivp dX3_pointBeneath_37 (by omega) (by omega) (by unfold InR; omega) (by unfold InR; omega) ?_
      refine wp_iadd dX3_pointBeneath_38 ?_
      refine wp_callVp dX3_pointBeneath_39 mlX3_47 mvX3_around (S_X3_around g (by first | assumption | (unfold InR; omega))) rfl rfl (by decide) (by decide) (gs0 hG) rfl rfl (Nat.le_of_ble_eq_true rfl) ?_
      exact wp_iret dX3_pointBeneath_42 rfl (⟨vi (by unfold ptB; (repeat' split) <;> first | rfl | omega), rfl⟩)
    · refine wp_iload_n dX3_pointBeneath_26 rfl ?_
      refine wp_goto 42 dX3_pointBeneath_27 (by decide) ?_
      exact wp_iret dX3_pointBeneath_42 rfl (⟨vi (by unfold ptB; (repeat' split) <;> first | rfl | omega), rfl⟩)

theorem ptB_R {P A p l : Int} (hP : 0 ≤ P ∧ P ≤ 24) (hA : 0 ≤ A ∧ A ≤ 11) (hp : 0 ≤ p ∧ p ≤ 100) : InR (ptB P A p l) := by
  unfold ptB arnd InR
  (repeat' split) <;> omega

set_option maxRecDepth 20000 in
theorem S_X3_reach {X : Cx} {h : Hp} {a : Nat} {p l : Int} (g : GB h a) (hp : 0 ≤ p ∧ p ≤ 100) (hl : 0 ≤ l ∧ l ≤ 3) : Spec X mX3_reach 2 [.ref (adr X a), .int (iI p), .int (iI l)] h (fun rv h' => rv = some (.int (iI (rch h a p l))) ∧ h' = h) := by
  have hG := g.1
  have g1 := g.2.1
  have g2 := g.2.2.1
  have g3 := g.2.2.2.1
  have g4 := g.2.2.2.2.1
  refine spec_wp (Nat.le_of_ble_eq_true rfl) (by decide +kernel) ?_
  refine wp_loc [(0, .ref (adr X a)), (1, .int (iI p)), (2, .int (iI l))] ⟨rfl, rfl, rfl, trivial⟩ ?_
  refine wp_aload_n dX3_reach_0 rfl ?_
  refine wp_aload_n dX3_reach_1 rfl ?_
  refine wp_iload_n dX3_reach_2 rfl ?_
  refine wp_iload_n dX3_reach_3 rfl ?_
  refine wp_callVp dX3_reach_4 mlX3_51 mvX3_pointBeneath (S_X3_pointBeneath g (by omega) (by omega)) rfl rfl (by decide) (by decide) (gs0 hG) rfl rfl (Nat.le_of_ble_eq_true rfl) ?_
  refine wp_callVp dX3_reach_7 mlX3_55 mvX3_heightOf (S_X3_heightOf g (ptB_R ⟨g1, g2⟩ ⟨g3, g4⟩ hp)) rfl rfl (by decide) (by decide) (gs0 hG) rfl rfl (Nat.le_of_ble_eq_true rfl) ?_
  refine wp_aload_n dX3_reach_10 rfl ?_
  refine wp_iload_n dX3_reach_11 rfl ?_
  refine wp_callVp dX3_reach_12 mlX3_58 mvX3_shortOf (S_X3_shortOf g (by first | assumption | (unfold InR; omega))) rfl rfl (by decide) (by decide) (gs0 hG) rfl rfl (Nat.le_of_ble_eq_true rfl) ?_
  refine wp_isub dX3_reach_15 ?_
  exact wp_iret dX3_reach_16 rfl (⟨rfl, rfl⟩)

set_option maxRecDepth 20000 in
theorem S_X3_reachOfAll {X : Cx} {h : Hp} {a : Nat} {p : Int} (g : GB h a) (hp : 0 ≤ p ∧ p ≤ 100) : Spec X mX3_reachOfAll 3 [.ref (adr X a), .int (iI p)] h (fun rv h' => rv = some (.int (iI (rch h a p 0 + rch h a p 1 + rch h a p 2 + rch h a p 3))) ∧ h' = h) := by
  have hG := g.1
  have g1 := g.2.1
  have g2 := g.2.2.1
  have g3 := g.2.2.2.1
  have g4 := g.2.2.2.2.1
  refine spec_wp (Nat.le_of_ble_eq_true rfl) (by decide +kernel) ?_
  refine wp_loc [(0, .ref (adr X a)), (1, .int (iI p))] ⟨rfl, rfl, trivial⟩ ?_
  refine wp_aload_n dX3_reachOfAll_0 rfl ?_
  refine wp_iload_n dX3_reachOfAll_1 rfl ?_
  refine wp_iconst dX3_reachOfAll_2 ?_
  refine wp_callVp dX3_reachOfAll_3 mlX3_61 mvX3_reach (S_X3_reach g (by omega) (by omega)) rfl rfl (by decide) (by decide) (gs0 hG) rfl rfl (Nat.le_of_ble_eq_true rfl) ?_
  refine wp_aload_n dX3_reachOfAll_6 rfl ?_
  refine wp_iload_n dX3_reachOfAll_7 rfl ?_
  refine wp_iconst dX3_reachOfAll_8 ?_
  refine wp_callVp dX3_reachOfAll_9 mlX3_61 mvX3_reach (S_X3_reach g (by omega) (by omega)) rfl rfl (by decide) (by decide) (gs0 hG) rfl rfl (Nat.le_of_ble_eq_true rfl) ?_
  refine wp_iadd dX3_reachOfAll_12 ?_
  refine wp_aload_n dX3_reachOfAll_13 rfl ?_
  refine wp_iload_n dX3_reachOfAll_14 rfl ?_
  refine wp_iconst dX3_reachOfAll_15 ?_
  refine wp_callVp dX3_reachOfAll_16 mlX3_61 mvX3_reach (S_X3_reach g (by omega) (by omega)) rfl rfl (by decide) (by decide) (gs0 hG) rfl rfl (Nat.le_of_ble_eq_true rfl) ?_
  refine wp_iadd dX3_reachOfAll_19 ?_
  refine wp_aload_n dX3_reachOfAll_20 rfl ?_
  refine wp_iload_n dX3_reachOfAll_21 rfl ?_
  refine wp_iconst dX3_reachOfAll_22 ?_
  refine wp_callVp dX3_reachOfAll_23 mlX3_61 mvX3_reach (S_X3_reach g (by omega) (by omega)) rfl rfl (by decide) (by decide) (gs0 hG) rfl rfl (Nat.le_of_ble_eq_true rfl) ?_
  refine wp_iadd dX3_reachOfAll_26 ?_
  exact wp_iret dX3_reachOfAll_27 rfl (⟨rfl, rfl⟩)

set_option maxRecDepth 20000 in
theorem S_X3_apart {X : Cx} {h : Hp} {a : Nat} {p l : Int} (g : GB h a) (hp : 0 ≤ p ∧ p ≤ 100) (hl : 0 ≤ l ∧ l ≤ 1) : Spec X mX3_apart 3 [.ref (adr X a), .int (iI p), .int (iI l)] h (fun rv h' => rv = some (.int (iI (rch h a p l - rch h a p (l + 2)))) ∧ h' = h) := by
  have hG := g.1
  have g1 := g.2.1
  have g2 := g.2.2.1
  have g3 := g.2.2.2.1
  have g4 := g.2.2.2.2.1
  refine spec_wp (Nat.le_of_ble_eq_true rfl) (by decide +kernel) ?_
  refine wp_loc [(0, .ref (adr X a)), (1, .int (iI p)), (2, .int (iI l))] ⟨rfl, rfl, rfl, trivial⟩ ?_
  refine wp_aload_n dX3_apart_0 rfl ?_
  refine wp_iload_n dX3_apart_1 rfl ?_
  refine wp_iload_n dX3_apart_2 rfl ?_
  refine wp_callVp dX3_apart_3 mlX3_61 mvX3_reach (S_X3_reach g (by omega) (by omega)) rfl rfl (by decide) (by decide) (gs0 hG) rfl rfl (Nat.le_of_ble_eq_true rfl) ?_
  refine wp_aload_n dX3_apart_6 rfl ?_
  refine wp_iload_n dX3_apart_7 rfl ?_
  refine wp_iload_n dX3_apart_8 rfl ?_
  refine wp_iconst dX3_apart_9 ?_
  refine wp_iadd dX3_apart_10 ?_
  refine wp_callVp dX3_apart_11 mlX3_61 mvX3_reach (S_X3_reach g (by omega) (by omega)) rfl rfl (by decide) (by decide) (gs0 hG) rfl rfl (Nat.le_of_ble_eq_true rfl) ?_
  refine wp_isub dX3_apart_14 ?_
  exact wp_iret dX3_apart_15 rfl (⟨rfl, rfl⟩)

def slant (h : Hp) (a : Nat) (p l : Int) : Int := rch h a p l - rch h a p (l + 2)
def tiltV (h : Hp) (a : Nat) (p : Int) : Int := max (iabs (slant h a p 0)) (iabs (slant h a p 1))
def leanV (h : Hp) (a : Nat) : Int := shO h a 0 + shO h a 2 - shO h a 1 - shO h a 3
def ggap (H : Int → Int) (P A p : Int) : Int := H p + H (arnd P (p + P / 2)) - H (arnd P (p + A)) - H (arnd P (arnd P (p + A) + P / 2))
def gapV (h : Hp) (a : Nat) (p : Int) : Int := ggap (fun i => hI h (a + 1) i.toNat) (hI h a 4) (hI h a 5) p - leanV h a
def slp (P A p q : Int) : Int := if ptB P A p 0 = q then 1 else if ptB P A p 1 = q then -1 else if ptB P A p 2 = q then 1 else if ptB P A p 3 = q then -1 else 0
theorem slant_b {h : Hp} {a : Nat} (g : GB h a) (p l : Int) : -198 ≤ slant h a p l ∧ slant h a p l ≤ 198 := by
  have h1 := rch_b g p l
  have h2 := rch_b g p (l + 2)
  unfold slant
  omega
theorem iabs_b {x n : Int} (h : -n ≤ x ∧ x ≤ n) : 0 ≤ iabs x ∧ iabs x ≤ n := by unfold iabs; split <;> omega

set_option maxRecDepth 20000 in
theorem S_X3_tiltAt {X : Cx} {h : Hp} {a : Nat} {p : Int} (g : GB h a) (hp : 0 ≤ p ∧ p ≤ 100) : Spec X mX3_tiltAt 4 [.ref (adr X a), .int (iI p)] h (fun rv h' => rv = some (.int (iI (tiltV h a p))) ∧ h' = h) := by
  have hG := g.1
  have g1 := g.2.1
  have g2 := g.2.2.1
  have g3 := g.2.2.2.1
  have g4 := g.2.2.2.2.1
  have t0 := slant_b g p 0
  have t1 := slant_b g p 1
  have u0 := iabs_b (n := 198) t0
  have u1 := iabs_b (n := 198) t1
  unfold slant at t0 t1 u0 u1
  refine spec_wp (Nat.le_of_ble_eq_true rfl) (by decide +kernel) ?_
  refine wp_loc [(0, .ref (adr X a)), (1, .int (iI p))] ⟨rfl, rfl, trivial⟩ ?_
  refine wp_aload_n dX3_tiltAt_0 rfl ?_
  refine wp_iload_n dX3_tiltAt_1 rfl ?_
  refine wp_iconst dX3_tiltAt_2 ?_
  refine wp_callVp dX3_tiltAt_3 mlX3_64 mvX3_apart (S_X3_apart g (by omega) (by omega)) rfl rfl (by decide) (by decide) (gs0 hG) rfl rfl (Nat.le_of_ble_eq_true rfl) ?_
  refine wp_callSp dX3_tiltAt_6 mlX3_67 msJ9_abs_0f7a4 (S_J9_abs_0f7a4 (by unfold InR; omega)) rfl rfl (by decide) (by decide) (Nat.le_of_ble_eq_true rfl) ?_
  refine wp_aload_n dX3_tiltAt_9 rfl ?_
  refine wp_iload_n dX3_tiltAt_10 rfl ?_
  refine wp_iconst dX3_tiltAt_11 ?_
  refine wp_callVp dX3_tiltAt_12 mlX3_64 mvX3_apart (S_X3_apart g (by omega) (by omega)) rfl rfl (by decide) (by decide) (gs0 hG) rfl rfl (Nat.le_of_ble_eq_true rfl) ?_
  refine wp_callSp dX3_tiltAt_15 mlX3_67 msJ9_abs_0f7a4 (S_J9_abs_0f7a4 (by unfold InR; omega)) rfl rfl (by decide) (by decide) (Nat.le_of_ble_eq_true rfl) ?_
  refine wp_callSp dX3_tiltAt_18 mlX3_72 msJ9_max_7cf53 (S_J9_max_7cf53 (by unfold InR; omega) (by unfold InR; omega)) rfl rfl (by decide) (by decide) (Nat.le_of_ble_eq_true rfl) ?_
  exact wp_iret dX3_tiltAt_21 rfl (⟨rfl, rfl⟩)

set_option maxRecDepth 20000 in
theorem S_X3_leanOf {X : Cx} {h : Hp} {a : Nat} {w x y z : Int} (g : GB h a) (hw : InR w) (hx : InR x) (hy : InR y) (hz : InR z) : Spec X mX3_leanOf 2 [.ref (adr X a), .int (iI w), .int (iI x), .int (iI y), .int (iI z)] h (fun rv h' => rv = some (.int (iI (shO h a w + shO h a y - shO h a x - shO h a z))) ∧ h' = h) := by
  have hG := g.1
  have g1 := g.2.1
  have g2 := g.2.2.1
  have g3 := g.2.2.2.1
  have g4 := g.2.2.2.2.1
  refine spec_wp (Nat.le_of_ble_eq_true rfl) (by decide +kernel) ?_
  refine wp_loc [(0, .ref (adr X a)), (1, .int (iI w)), (2, .int (iI x)), (3, .int (iI y)), (4, .int (iI z))] ⟨rfl, rfl, rfl, rfl, rfl, trivial⟩ ?_
  refine wp_aload_n dX3_leanOf_0 rfl ?_
  refine wp_iload_n dX3_leanOf_1 rfl ?_
  refine wp_callVp dX3_leanOf_2 mlX3_58 mvX3_shortOf (S_X3_shortOf g (by first | assumption | (unfold InR; omega))) rfl rfl (by decide) (by decide) (gs0 hG) rfl rfl (Nat.le_of_ble_eq_true rfl) ?_
  refine wp_aload_n dX3_leanOf_5 rfl ?_
  refine wp_iload_n dX3_leanOf_6 rfl ?_
  refine wp_callVp dX3_leanOf_7 mlX3_58 mvX3_shortOf (S_X3_shortOf g (by first | assumption | (unfold InR; omega))) rfl rfl (by decide) (by decide) (gs0 hG) rfl rfl (Nat.le_of_ble_eq_true rfl) ?_
  refine wp_iadd dX3_leanOf_10 ?_
  refine wp_aload_n dX3_leanOf_11 rfl ?_
  refine wp_iload_n dX3_leanOf_12 rfl ?_
  refine wp_callVp dX3_leanOf_13 mlX3_58 mvX3_shortOf (S_X3_shortOf g (by first | assumption | (unfold InR; omega))) rfl rfl (by decide) (by decide) (gs0 hG) rfl rfl (Nat.le_of_ble_eq_true rfl) ?_
  refine wp_isub dX3_leanOf_16 ?_
  refine wp_aload_n dX3_leanOf_17 rfl ?_
  refine wp_iload dX3_leanOf_18 rfl ?_
  refine wp_callVp dX3_leanOf_20 mlX3_58 mvX3_shortOf (S_X3_shortOf g (by first | assumption | (unfold InR; omega))) rfl rfl (by decide) (by decide) (gs0 hG) rfl rfl (Nat.le_of_ble_eq_true rfl) ?_
  refine wp_isub dX3_leanOf_23 ?_
  exact wp_iret dX3_leanOf_24 rfl (⟨rfl, rfl⟩)

set_option maxRecDepth 20000 in
theorem S_X3_lean {X : Cx} {h : Hp} {a : Nat} (g : GB h a) : Spec X mX3_lean 3 [.ref (adr X a)] h (fun rv h' => rv = some (.int (iI (leanV h a))) ∧ h' = h) := by
  have hG := g.1
  have g1 := g.2.1
  have g2 := g.2.2.1
  have g3 := g.2.2.2.1
  have g4 := g.2.2.2.2.1
  refine spec_wp (Nat.le_of_ble_eq_true rfl) (by decide +kernel) ?_
  refine wp_loc [(0, .ref (adr X a))] ⟨rfl, trivial⟩ ?_
  refine wp_aload_n dX3_lean_0 rfl ?_
  refine wp_iconst dX3_lean_1 ?_
  refine wp_iconst dX3_lean_2 ?_
  refine wp_iconst dX3_lean_3 ?_
  refine wp_iconst dX3_lean_4 ?_
  refine wp_callVp dX3_lean_5 mlX3_83 mvX3_leanOf (S_X3_leanOf g (by first | assumption | (unfold InR; omega)) (by first | assumption | (unfold InR; omega)) (by first | assumption | (unfold InR; omega)) (by first | assumption | (unfold InR; omega))) rfl rfl (by decide) (by decide) (gs0 hG) rfl rfl (Nat.le_of_ble_eq_true rfl) ?_
  exact wp_iret dX3_lean_8 rfl (⟨rfl, rfl⟩)

set_option maxRecDepth 20000 in
theorem S_X3_groundGap {X : Cx} {h : Hp} {a b : Nat} {A p : Int} (g : GB h a) (hb : shp[b]? = some (.inl (0, 24))) (he : hI h a 4 % 2 = 0) (hA : 0 ≤ A ∧ A < hI h a 4) (hp : 0 ≤ p ∧ p < hI h a 4) : Spec X mX3_groundGap 1 [.ref (adr X a), .ref (adr X b), .int (iI A), .int (iI p)] h (fun rv h' => rv = some (.int (iI (ggap (fun i => hI h b i.toNat) (hI h a 4) A p))) ∧ h' = h) := by
  have hG := g.1
  have g1 := g.2.1
  have g2 := g.2.2.1
  have g3 := g.2.2.2.1
  have g4 := g.2.2.2.2.1
  refine spec_wp (Nat.le_of_ble_eq_true rfl) (by decide +kernel) ?_
  refine wp_loc [(0, .ref (adr X a)), (1, .ref (adr X b)), (2, .int (iI A)), (3, .int (iI p))] ⟨rfl, rfl, rfl, rfl, trivial⟩ ?_
  refine wp_aload_n dX3_groundGap_0 rfl ?_
  refine wp_getI dX3_groundGap_1 flX3_24 (gs0 hG) rfl ?_
  refine wp_iconst dX3_groundGap_4 ?_
  refine wp_idivp dX3_groundGap_5 (by omega) (by omega) (by unfold InR; omega) (by unfold InR; omega) ?_
  refine wp_istore dX3_groundGap_6 (by decide) ?_
  refine wp_aload_n dX3_groundGap_8 rfl ?_
  refine wp_iload_n dX3_groundGap_9 rfl ?_
  refine wp_iload_n dX3_groundGap_10 rfl ?_
  refine wp_iadd dX3_groundGap_11 ?_
  refine wp_callVp dX3_groundGap_12 mlX3_47 mvX3_around (S_X3_around g (by first | assumption | (unfold InR; omega))) rfl rfl (by decide) (by decide) (gs0 hG) rfl rfl (Nat.le_of_ble_eq_true rfl) ?_
  refine wp_istore dX3_groundGap_15 (by decide) ?_
  refine wp_aload_n dX3_groundGap_17 rfl ?_
  refine wp_iload_n dX3_groundGap_18 rfl ?_
  refine wp_iload dX3_groundGap_19 rfl ?_
  refine wp_iadd dX3_groundGap_21 ?_
  refine wp_callVp dX3_groundGap_22 mlX3_47 mvX3_around (S_X3_around g (by first | assumption | (unfold InR; omega))) rfl rfl (by decide) (by decide) (gs0 hG) rfl rfl (Nat.le_of_ble_eq_true rfl) ?_
  refine wp_istore dX3_groundGap_25 (by decide) ?_
  have e5 : 0 ≤ arnd (hI h a 4) (p + A) ∧ arnd (hI h a 4) (p + A) < hI h a 4 := by unfold arnd; split <;> omega
  have e6 : 0 ≤ arnd (hI h a 4) (p + hI h a 4 / 2) ∧ arnd (hI h a 4) (p + hI h a 4 / 2) < hI h a 4 := by unfold arnd; split <;> omega
  refine wp_aload_n dX3_groundGap_27 rfl ?_
  refine wp_iload dX3_groundGap_28 rfl ?_
  refine wp_iload dX3_groundGap_30 rfl ?_
  refine wp_iadd dX3_groundGap_32 ?_
  refine wp_callVp dX3_groundGap_33 mlX3_47 mvX3_around (S_X3_around g (by first | assumption | (unfold InR; omega))) rfl rfl (by decide) (by decide) (gs0 hG) rfl rfl (Nat.le_of_ble_eq_true rfl) ?_
  refine wp_istore dX3_groundGap_36 (by decide) ?_
  have e7 : 0 ≤ arnd (hI h a 4) (arnd (hI h a 4) (p + A) + hI h a 4 / 2) ∧ arnd (hI h a 4) (arnd (hI h a 4) (p + A) + hI h a 4 / 2) < hI h a 4 := by generalize arnd (hI h a 4) (p + A) = z at e5; unfold arnd; split <;> omega
  refine wp_aload_n dX3_groundGap_38 rfl ?_
  refine wp_alen dX3_groundGap_39 hb (by decide) ?_
  refine wp_aload_n dX3_groundGap_40 rfl ?_
  refine wp_getI dX3_groundGap_41 flX3_24 (gs0 hG) rfl ?_
  refine wp_callSp dX3_groundGap_44 mlX3_87 msJ9_min_7cf53 (S_J9_min_7cf53 (by unfold InR; omega) (by unfold InR; omega)) rfl rfl (by decide) (by decide) (Nat.le_of_ble_eq_true rfl) ?_
  refine wp_istore dX3_groundGap_47 (by decide) ?_
  refine wp_iload_n dX3_groundGap_49 rfl ?_
  refine wp_iflt 99 dX3_groundGap_50 (by decide) (by unfold InR; omega) (fun c50 => ?_) (fun c50 => ?_)
  · exact absurd c50 (by omega)
  · refine wp_iload_n dX3_groundGap_53 rfl ?_
    refine wp_iload dX3_groundGap_54 rfl ?_
    refine wp_icmpge 99 dX3_groundGap_56 (by decide) (by unfold InR; omega) (by unfold InR; omega) (fun c56 => ?_) (fun c56 => ?_)
    · exact absurd c56 (by omega)
    · refine wp_iload dX3_groundGap_59 rfl ?_
      refine wp_iflt 99 dX3_groundGap_61 (by decide) (by unfold InR; omega) (fun c61 => ?_) (fun c61 => ?_)
      · exact absurd c61 (by omega)
      · refine wp_iload dX3_groundGap_64 rfl ?_
        refine wp_iload dX3_groundGap_66 rfl ?_
        refine wp_icmpge 99 dX3_groundGap_68 (by decide) (by unfold InR; omega) (by unfold InR; omega) (fun c68 => ?_) (fun c68 => ?_)
        · exact absurd c68 (by omega)
        · refine wp_iload dX3_groundGap_71 rfl ?_
          refine wp_iflt 99 dX3_groundGap_73 (by decide) (by unfold InR; omega) (fun c73 => ?_) (fun c73 => ?_)
          · exact absurd c73 (by omega)
          · refine wp_iload dX3_groundGap_76 rfl ?_
            refine wp_iload dX3_groundGap_78 rfl ?_
            refine wp_icmpge 99 dX3_groundGap_80 (by decide) (by unfold InR; omega) (by unfold InR; omega) (fun c80 => ?_) (fun c80 => ?_)
            · exact absurd c80 (by omega)
            · refine wp_iload dX3_groundGap_83 rfl ?_
              refine wp_iflt 99 dX3_groundGap_85 (by decide) (by unfold InR; omega) (fun c85 => ?_) (fun c85 => ?_)
              · exact absurd c85 (by omega)
              · refine wp_iload dX3_groundGap_88 rfl ?_
                refine wp_iload dX3_groundGap_90 rfl ?_
                refine wp_icmpge 99 dX3_groundGap_92 (by decide) (by unfold InR; omega) (by unfold InR; omega) (fun c92 => ?_) (fun c92 => ?_)
                · exact absurd c92 (by omega)
                · refine wp_iconst dX3_groundGap_95 ?_
                  refine wp_goto 100 dX3_groundGap_96 (by decide) ?_
                  refine wp_istore dX3_groundGap_100 (by decide) ?_
                  refine wp_iload dX3_groundGap_102 rfl ?_
                  refine wp_ifeq 128 dX3_groundGap_104 (by decide) (by unfold InR; omega) (fun c104 => ?_) (fun c104 => ?_)
                  · exact absurd c104 (by omega)
                  · refine wp_aload_n dX3_groundGap_107 rfl ?_
                    refine wp_iload_n dX3_groundGap_108 rfl ?_
                    refine wp_iald dX3_groundGap_109 hb (by omega) (by omega) ?_
                    refine wp_aload_n dX3_groundGap_110 rfl ?_
                    refine wp_iload dX3_groundGap_111 rfl ?_
                    refine wp_iald dX3_groundGap_113 hb (by omega) (by omega) ?_
                    refine wp_iadd dX3_groundGap_114 ?_
                    refine wp_aload_n dX3_groundGap_115 rfl ?_
                    refine wp_iload dX3_groundGap_116 rfl ?_
                    refine wp_iald dX3_groundGap_118 hb (by omega) (by omega) ?_
                    refine wp_isub dX3_groundGap_119 ?_
                    refine wp_aload_n dX3_groundGap_120 rfl ?_
                    refine wp_iload dX3_groundGap_121 rfl ?_
                    refine wp_iald dX3_groundGap_123 hb (by omega) (by omega) ?_
                    refine wp_isub dX3_groundGap_124 ?_
                    refine wp_goto 129 dX3_groundGap_125 (by decide) ?_
                    exact wp_iret dX3_groundGap_129 rfl (⟨rfl, rfl⟩)

set_option maxRecDepth 20000 in
theorem S_X3_gapAt {X : Cx} {h : Hp} {a : Nat} {p : Int} (g : GB h a) (he : hI h a 4 % 2 = 0) (hA : hI h a 5 < hI h a 4) (hp : 0 ≤ p ∧ p < hI h a 4) : Spec X mX3_gapAt 4 [.ref (adr X a), .int (iI p)] h (fun rv h' => rv = some (.int (iI (gapV h a p))) ∧ h' = h) := by
  have hG := g.1
  have g1 := g.2.1
  have g2 := g.2.2.1
  have g3 := g.2.2.2.1
  have g4 := g.2.2.2.2.1
  refine spec_wp (Nat.le_of_ble_eq_true rfl) (by decide +kernel) ?_
  refine wp_loc [(0, .ref (adr X a)), (1, .int (iI p))] ⟨rfl, rfl, trivial⟩ ?_
  refine wp_aload_n dX3_gapAt_0 rfl ?_
  refine wp_aload_n dX3_gapAt_1 rfl ?_
  refine wp_getC dX3_gapAt_2 flX3_9 (gs0 hG) rfl ?_
  refine wp_aload_n dX3_gapAt_5 rfl ?_
  refine wp_getI dX3_gapAt_6 flX3_28 (gs0 hG) rfl ?_
  refine wp_iload_n dX3_gapAt_9 rfl ?_
  refine wp_callVp dX3_gapAt_10 mlX3_75 mvX3_groundGap (S_X3_groundGap g (by first | assumption | exact gs1 hG | rfl) (by assumption) (by omega) (by omega)) rfl rfl (by decide) (by decide) (gs0 hG) rfl rfl (Nat.le_of_ble_eq_true rfl) ?_
  refine wp_aload_n dX3_gapAt_13 rfl ?_
  refine wp_callVp dX3_gapAt_14 mlX3_79 mvX3_lean (S_X3_lean g) rfl rfl (by decide) (by decide) (gs0 hG) rfl rfl (Nat.le_of_ble_eq_true rfl) ?_
  refine wp_isub dX3_gapAt_17 ?_
  exact wp_iret dX3_gapAt_18 rfl (⟨rfl, rfl⟩)

theorem slp_t {P A p q l : Int} (h0 : 0 ≤ l) (h1 : l < 4) (hi : ∀ t, 0 ≤ t → t < l → ¬ ptB P A p t = q) (e : ptB P A p l = q) (hm : l % 2 = 0) : (1 : Int) = slp P A p q := by
  unfold slp
  rcases (show l = 0 ∨ l = 2 by omega) with rfl | rfl
  · rw [if_pos e]
  · rw [if_neg (hi 0 (by omega) (by omega)), if_neg (hi 1 (by omega) (by omega)), if_pos e]
theorem slp_o {P A p q l : Int} (h0 : 0 ≤ l) (h1 : l < 4) (hi : ∀ t, 0 ≤ t → t < l → ¬ ptB P A p t = q) (e : ptB P A p l = q) (hm : ¬ l % 2 = 0) : (-1 : Int) = slp P A p q := by
  unfold slp
  rcases (show l = 1 ∨ l = 3 by omega) with rfl | rfl
  · rw [if_neg (hi 0 (by omega) (by omega)), if_pos e]
  · rw [if_neg (hi 0 (by omega) (by omega)), if_neg (hi 1 (by omega) (by omega)), if_neg (hi 2 (by omega) (by omega)), if_pos e]
theorem slp_0 {P A p q : Int} (hi : ∀ t, 0 ≤ t → t < 4 → ¬ ptB P A p t = q) : (0 : Int) = slp P A p q := by
  unfold slp
  rw [if_neg (hi 0 (by omega) (by omega)), if_neg (hi 1 (by omega) (by omega)), if_neg (hi 2 (by omega) (by omega)), if_neg (hi 3 (by omega) (by omega))]

set_option maxRecDepth 20000 in
theorem S_X3_slope {X : Cx} {h : Hp} {a : Nat} {p q : Int} (g : GB h a) (hp : 0 ≤ p ∧ p ≤ 100) (hq : InR q) : Spec X mX3_slope 2 [.ref (adr X a), .int (iI p), .int (iI q)] h (fun rv h' => rv = some (.int (iI (slp (hI h a 4) (hI h a 5) p q))) ∧ h' = h) := by
  have hG := g.1
  have g1 := g.2.1
  have g2 := g.2.2.1
  have g3 := g.2.2.2.1
  have g4 := g.2.2.2.2.1
  refine spec_wp (Nat.le_of_ble_eq_true rfl) (by decide +kernel) ?_
  refine wp_loc [(0, .ref (adr X a)), (1, .int (iI p)), (2, .int (iI q))] ⟨rfl, rfl, rfl, trivial⟩ ?_
  have L2 : ∀ (n : Nat) (l : Int), 4 - l < n → 0 ≤ l ∧ l ≤ 4 → (∀ t, 0 ≤ t → t < l → ¬ ptB (hI h a 4) (hI h a 5) p t = q) → WP X mX3_slope 2 2 [(0, .ref (adr X a)), (1, .int (iI p)), (2, .int (iI q)), (3, .int (iI l))] [] h (fun rv h' => rv = some (.int (iI (slp (hI h a 4) (hI h a 5) p q))) ∧ h' = h) := by
    intro n
    induction n with
    | zero => intro l hm hl hi; omega
    | succ n ih =>
      intro l hm hl hi
      have hl0 := hl.1
      refine wp_iload_n dX3_slope_2 rfl ?_
      refine wp_iconst dX3_slope_3 ?_
      refine wp_icmpge 35 dX3_slope_4 (by decide) (by unfold InR; omega) (by unfold InR; omega) (fun c4 => ?_) (fun c4 => ?_)
      · refine wp_iconst dX3_slope_35 ?_
        exact wp_iret dX3_slope_36 rfl (⟨vi (slp_0 (fun t t0 t1 => hi t t0 (by omega))), rfl⟩)
      · refine wp_aload_n dX3_slope_7 rfl ?_
        refine wp_iload_n dX3_slope_8 rfl ?_
        refine wp_iload_n dX3_slope_9 rfl ?_
        refine wp_callVp dX3_slope_10 mlX3_51 mvX3_pointBeneath (S_X3_pointBeneath g (by omega) (by omega)) rfl rfl (by decide) (by decide) (gs0 hG) rfl rfl (Nat.le_of_ble_eq_true rfl) ?_
        refine wp_iload_n dX3_slope_13 rfl ?_
        refine wp_icmpne 29 dX3_slope_14 (by decide) (ptB_R ⟨g1, g2⟩ ⟨g3, g4⟩ (by omega)) (by assumption) (fun c14 => ?_) (fun c14 => ?_)
        · refine wp_iinc dX3_slope_29 rfl (by decide) ?_
          refine wp_goto 2 dX3_slope_32 (by decide) ?_
          refine wp_loc [(0, .ref (adr X a)), (1, .int (iI p)), (2, .int (iI q)), (3, .int (iI (l + 1)))] ⟨rfl, rfl, rfl, rfl, trivial⟩ ?_
          exact ih (l + 1) (by omega) (by omega) (fun t t0 t1 => (show t < l ∨ t = l by omega).elim (fun z => hi t t0 z) (fun z => by rw [z]; exact c14))
        · refine wp_iload_n dX3_slope_17 rfl ?_
          refine wp_iconst dX3_slope_18 ?_
          refine wp_iremp dX3_slope_19 (by omega) (by omega) (by unfold InR; omega) (by unfold InR; omega) ?_
          refine wp_ifne 27 dX3_slope_20 (by decide) (by unfold InR; omega) (fun c20 => ?_) (fun c20 => ?_)
          · refine wp_iconst dX3_slope_27 ?_
            exact wp_iret dX3_slope_28 rfl (⟨vi (by first | exact slp_t hl0 (by omega) hi c14 (by omega) | exact slp_o hl0 (by omega) hi c14 (by omega)), rfl⟩)
          · refine wp_iconst dX3_slope_23 ?_
            refine wp_goto 28 dX3_slope_24 (by decide) ?_
            exact wp_iret dX3_slope_28 rfl (⟨vi (by first | exact slp_t hl0 (by omega) hi c14 (by omega) | exact slp_o hl0 (by omega) hi c14 (by omega)), rfl⟩)
  refine wp_iconst dX3_slope_0 ?_
  refine wp_istore_n dX3_slope_1 (by decide) ?_
  refine wp_loc [(0, .ref (adr X a)), (1, .int (iI p)), (2, .int (iI q)), (3, .int (iI 0))] ⟨rfl, rfl, rfl, rfl, trivial⟩ ?_
  exact L2 5 0 (by omega) (by omega) (fun t t0 t1 => by omega)

