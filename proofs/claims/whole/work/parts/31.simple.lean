/-! the class: what is told, how it stands: simple questions -/
set_option maxRecDepth 20000 in
theorem S_X10_noGarden {X : Cx} {h : Hp} (g : GB h (hR h 0 6)) : Spec X mX10_noGarden 0 [.ref (adr X 0)] h (fun rv h' => rv = some (.int (iI (b2i (hI h (hR h 0 6) 4 = 0)))) ∧ h' = h) := by
  have hG := g.1
  have g1 := g.2.1
  have g2 := g.2.2.1
  refine spec_wp (Nat.le_of_ble_eq_true rfl) (by decide +kernel) ?_
  refine wp_loc [(0, .ref (adr X 0))] ⟨rfl, trivial⟩ ?_
  refine wp_aload_n dX10_noGarden_0 rfl ?_
  refine wp_getM dX10_noGarden_1 flX10_46 rfl rfl ?_
  refine wp_getI dX10_noGarden_4 flX10_137 (gs0 hG) rfl ?_
  refine wp_ifne 14 dX10_noGarden_7 (by decide) (by unfold InR; omega) (fun c7 => ?_) (fun c7 => ?_)
  · refine wp_iconst dX10_noGarden_14 ?_
    exact wp_zret dX10_noGarden_15 rfl (by omega) (⟨by first | exact vb1 (by omega) | exact vb0 (by omega), rfl⟩)
  · refine wp_iconst dX10_noGarden_10 ?_
    refine wp_goto 15 dX10_noGarden_11 (by decide) ?_
    exact wp_zret dX10_noGarden_15 rfl (by omega) (⟨by first | exact vb1 (by omega) | exact vb0 (by omega), rfl⟩)

def qGap (σ : Sg) (p : Int) : Int := if 0 ≤ p ∧ p < gP (sG σ) then gapF (sG σ) p else -1000000
def qTilt (σ : Sg) (p : Int) : Int := if 0 ≤ p ∧ p < gP (sG σ) then tltF (sG σ) p else -1
def qShorter (σ : Sg) (l : Int) : Int := if 0 < gP (sG σ) ∧ 0 ≤ l ∧ l < 4 then gS (sG σ) l else -1
def qCard (σ : Sg) (s w : Int) : Int := if 0 ≤ s ∧ s < gK (sG σ) ∧ 0 ≤ w ∧ w ≤ 1 then (if w = 0 then gT (sG σ) s else gN (sG σ) s) else -1
def qCount (σ : Sg) (w : Int) : Int := if w = 0 then gP (sG σ) else if w = 1 then gA (sG σ) else if w = 2 then gK (sG σ) else if w = 3 then (sW σ).length else if w = 4 then (sT σ).length else if w = 5 then sD σ else if w = 6 then (sR_ σ).length else if w = 7 then (sAc σ).length else -1000000
def sawF (S : Int → Int) (b w : Int) : Nat → Int → Int
  | 0, _ => -1
  | n + 1, l => if S l + b ≤ 99 then (if w = 0 then l else b) else sawF S b w n (l + 2)
def qSawn (σ : Sg) (p w : Int) : Int := if 0 ≤ p ∧ p < gP (sG σ) ∧ 0 ≤ w ∧ w ≤ 1 then (if gapF (sG σ) p = 0 then 0 else sawF (gS (sG σ)) (iabs (gapF (sG σ) p)) w 2 (if 0 < gapF (sG σ) p then 0 else 1)) else -1
def qLess (σ : Sg) : Int := if gP (sG σ) = 0 then -1 else gS (sG σ) 0 + gS (sG σ) 1 + gS (sG σ) 2 + gS (sG σ) 3
def qJug (σ : Sg) (p l : Int) : Int := if 0 ≤ p ∧ p < gP (sG σ) ∧ 0 ≤ l ∧ l < 4 then (if gapF (sG σ) p = 0 then 15 else if 0 < gapF (sG σ) p then (if l = 3 then 13 else 7) else (if l = 2 then 14 else 11)) else -1
def soupB (G : Gdn) (v r : Int) : Int → Bool := fun p => decide (iabs (gapF G p) ≤ v) && decide (tltF G p ≤ r)
def qSoup (σ : Sg) (v r : Int) : Int := if 0 < gP (sG σ) ∧ (0 ≤ v ∧ v ≤ 99) ∧ 0 ≤ r ∧ r ≤ 99 then cntF (soupB (sG σ) v r) (gP (sG σ)).toNat 0 0 else -1

set_option maxRecDepth 20000 in
theorem S_X10_gap {X : Cx} {h : Hp} {σ : Sg} (a : AC h σ) (o : SOK σ) {p : Int} (hp : InR p) : Spec X mX10_gap 30 [.ref (adr X 0), .int (iI p)] h (fun rv h' => rv = some (.int (iI (qGap σ p))) ∧ AC h' σ ∧ sameM h h') := by
  have g := a.gb o
  have hG := g.1
  have gk := o.2.2.2.1
  have gb := gk.b
  have gkb := gk.2.1
  have e4 : hI h (hR h 0 6) 4 = gP (sG σ) := a.2.2.2.2.1.1
  have e5 : hI h (hR h 0 6) 5 = gA (sG σ) := a.2.2.2.2.1.2.1
  have e6 : hI h (hR h 0 6) 6 = gK (sG σ) := a.2.2.2.2.1.2.2.1
  have he : hI h (hR h 0 6) 4 % 2 = 0 := by omega
  refine spec_wp (Nat.le_of_ble_eq_true rfl) (by decide +kernel) ?_
  refine wp_loc [(0, .ref (adr X 0)), (1, .int (iI p))] ⟨rfl, rfl, trivial⟩ ?_
  refine wp_aload_n dX10_gap_0 rfl ?_
  refine wp_getM dX10_gap_1 flX10_46 rfl rfl ?_
  refine wp_iload_n dX10_gap_4 rfl ?_
  refine wp_callVp dX10_gap_5 mlX10_152 mvX3_has (S_X3_has g (by first | assumption | (unfold InR; omega))) rfl rfl (by decide) (by decide) (gs0 hG) rfl rfl (Nat.le_of_ble_eq_true rfl) ?_
  refine wp_ifeqb 22 dX10_gap_8 (by decide) (fun c8 => ?_) (fun c8 => ?_)
  · refine wp_ldc (z := -1000000) dX10_gap_22 kcX10_181 ?_
    exact wp_iret dX10_gap_24 rfl (⟨vi (by unfold qGap; first | rw [if_pos (by omega), a.gap o (by omega)] | rw [if_neg (by omega)]), a, sameM_rf h⟩)
  · refine wp_aload_n dX10_gap_11 rfl ?_
    refine wp_getM dX10_gap_12 flX10_46 rfl rfl ?_
    refine wp_iload_n dX10_gap_15 rfl ?_
    refine wp_callVp dX10_gap_16 mlX10_182 mvX3_gapAt (S_X3_gapAt g (by assumption) (by omega) (by omega)) rfl rfl (by decide) (by decide) (gs0 hG) rfl rfl (Nat.le_of_ble_eq_true rfl) ?_
    refine wp_goto 24 dX10_gap_19 (by decide) ?_
    exact wp_iret dX10_gap_24 rfl (⟨vi (by unfold qGap; first | rw [if_pos (by omega), a.gap o (by omega)] | rw [if_neg (by omega)]), a, sameM_rf h⟩)

set_option maxRecDepth 20000 in
theorem S_X10_tilt {X : Cx} {h : Hp} {σ : Sg} (a : AC h σ) (o : SOK σ) {p : Int} (hp : InR p) : Spec X mX10_tilt 30 [.ref (adr X 0), .int (iI p)] h (fun rv h' => rv = some (.int (iI (qTilt σ p))) ∧ AC h' σ ∧ sameM h h') := by
  have g := a.gb o
  have hG := g.1
  have gk := o.2.2.2.1
  have gb := gk.b
  have gkb := gk.2.1
  have e4 : hI h (hR h 0 6) 4 = gP (sG σ) := a.2.2.2.2.1.1
  have e5 : hI h (hR h 0 6) 5 = gA (sG σ) := a.2.2.2.2.1.2.1
  have e6 : hI h (hR h 0 6) 6 = gK (sG σ) := a.2.2.2.2.1.2.2.1
  have he : hI h (hR h 0 6) 4 % 2 = 0 := by omega
  refine spec_wp (Nat.le_of_ble_eq_true rfl) (by decide +kernel) ?_
  refine wp_loc [(0, .ref (adr X 0)), (1, .int (iI p))] ⟨rfl, rfl, trivial⟩ ?_
  refine wp_aload_n dX10_tilt_0 rfl ?_
  refine wp_getM dX10_tilt_1 flX10_46 rfl rfl ?_
  refine wp_iload_n dX10_tilt_4 rfl ?_
  refine wp_callVp dX10_tilt_5 mlX10_152 mvX3_has (S_X3_has g (by first | assumption | (unfold InR; omega))) rfl rfl (by decide) (by decide) (gs0 hG) rfl rfl (Nat.le_of_ble_eq_true rfl) ?_
  refine wp_ifeqb 22 dX10_tilt_8 (by decide) (fun c8 => ?_) (fun c8 => ?_)
  · refine wp_iconst dX10_tilt_22 ?_
    exact wp_iret dX10_tilt_23 rfl (⟨vi (by unfold qTilt; first | rw [if_pos (by omega), a.tilt] | rw [if_neg (by omega)]), a, sameM_rf h⟩)
  · refine wp_aload_n dX10_tilt_11 rfl ?_
    refine wp_getM dX10_tilt_12 flX10_46 rfl rfl ?_
    refine wp_iload_n dX10_tilt_15 rfl ?_
    refine wp_callVp dX10_tilt_16 mlX10_185 mvX3_tiltAt (S_X3_tiltAt g (by omega)) rfl rfl (by decide) (by decide) (gs0 hG) rfl rfl (Nat.le_of_ble_eq_true rfl) ?_
    refine wp_goto 23 dX10_tilt_19 (by decide) ?_
    exact wp_iret dX10_tilt_23 rfl (⟨vi (by unfold qTilt; first | rw [if_pos (by omega), a.tilt] | rw [if_neg (by omega)]), a, sameM_rf h⟩)

set_option maxRecDepth 20000 in
theorem S_X10_shorter {X : Cx} {h : Hp} {σ : Sg} (a : AC h σ) (o : SOK σ) {l : Int} (hl : InR l) : Spec X mX10_shorter 30 [.ref (adr X 0), .int (iI l)] h (fun rv h' => rv = some (.int (iI (qShorter σ l))) ∧ AC h' σ ∧ sameM h h') := by
  have g := a.gb o
  have hG := g.1
  have gk := o.2.2.2.1
  have gb := gk.b
  have gkb := gk.2.1
  have e4 : hI h (hR h 0 6) 4 = gP (sG σ) := a.2.2.2.2.1.1
  have e5 : hI h (hR h 0 6) 5 = gA (sG σ) := a.2.2.2.2.1.2.1
  have e6 : hI h (hR h 0 6) 6 = gK (sG σ) := a.2.2.2.2.1.2.2.1
  have he : hI h (hR h 0 6) 4 % 2 = 0 := by omega
  refine spec_wp (Nat.le_of_ble_eq_true rfl) (by decide +kernel) ?_
  refine wp_loc [(0, .ref (adr X 0)), (1, .int (iI l))] ⟨rfl, rfl, trivial⟩ ?_
  refine wp_aload_n dX10_shorter_0 rfl ?_
  refine wp_callVp dX10_shorter_1 mlX10_148 mvX10_noGarden (S_X10_noGarden g) rfl rfl (by decide) (by decide) rfl rfl rfl (Nat.le_of_ble_eq_true rfl) ?_
  refine wp_ifneb 14 dX10_shorter_4 (by decide) (fun c4 => ?_) (fun c4 => ?_)
  · refine wp_iconst dX10_shorter_14 ?_
    refine wp_goto 26 dX10_shorter_15 (by decide) ?_
    exact wp_iret dX10_shorter_26 rfl (⟨vi (by unfold qShorter; first | rw [if_pos (by omega), a.2.2.2.2.1.2.2.2.2.2.1] | rw [if_neg (by omega)]), a, sameM_rf h⟩)
  · refine wp_iload_n dX10_shorter_7 rfl ?_
    refine wp_callSp dX10_shorter_8 mlX10_162 msX10_isLeg (S_X10_isLeg (by first | assumption | (unfold InR; omega))) rfl rfl (by decide) (by decide) (Nat.le_of_ble_eq_true rfl) ?_
    refine wp_ifneb 18 dX10_shorter_11 (by decide) (fun c11 => ?_) (fun c11 => ?_)
    · refine wp_aload_n dX10_shorter_18 rfl ?_
      refine wp_getM dX10_shorter_19 flX10_46 rfl rfl ?_
      refine wp_iload_n dX10_shorter_22 rfl ?_
      refine wp_callVp dX10_shorter_23 mlX10_165 mvX3_shortOf (S_X3_shortOf g (by first | assumption | (unfold InR; omega))) rfl rfl (by decide) (by decide) (gs0 hG) rfl rfl (Nat.le_of_ble_eq_true rfl) ?_
      exact wp_iret dX10_shorter_26 rfl (⟨vi (by unfold qShorter; first | rw [if_pos (by omega), a.2.2.2.2.1.2.2.2.2.2.1] | rw [if_neg (by omega)]), a, sameM_rf h⟩)
    · refine wp_iconst dX10_shorter_14 ?_
      refine wp_goto 26 dX10_shorter_15 (by decide) ?_
      exact wp_iret dX10_shorter_26 rfl (⟨vi (by unfold qShorter; first | rw [if_pos (by omega), a.2.2.2.2.1.2.2.2.2.2.1] | rw [if_neg (by omega)]), a, sameM_rf h⟩)

set_option maxRecDepth 20000 in
theorem S_X10_card {X : Cx} {h : Hp} {σ : Sg} (a : AC h σ) (o : SOK σ) {s w : Int} (hs : InR s) (hw : InR w) : Spec X mX10_card 30 [.ref (adr X 0), .int (iI s), .int (iI w)] h (fun rv h' => rv = some (.int (iI (qCard σ s w))) ∧ AC h' σ ∧ sameM h h') := by
  have g := a.gb o
  have hG := g.1
  have gk := o.2.2.2.1
  have gb := gk.b
  have gkb := gk.2.1
  have e4 : hI h (hR h 0 6) 4 = gP (sG σ) := a.2.2.2.2.1.1
  have e5 : hI h (hR h 0 6) 5 = gA (sG σ) := a.2.2.2.2.1.2.1
  have e6 : hI h (hR h 0 6) 6 = gK (sG σ) := a.2.2.2.2.1.2.2.1
  have he : hI h (hR h 0 6) 4 % 2 = 0 := by omega
  refine spec_wp (Nat.le_of_ble_eq_true rfl) (by decide +kernel) ?_
  refine wp_loc [(0, .ref (adr X 0)), (1, .int (iI s)), (2, .int (iI w))] ⟨rfl, rfl, rfl, trivial⟩ ?_
  refine wp_iload_n dX10_card_0 rfl ?_
  refine wp_iflt 29 dX10_card_1 (by decide) (by first | assumption | (unfold InR; omega)) (fun c1 => ?_) (fun c1 => ?_)
  · refine wp_iconst dX10_card_29 ?_
    exact wp_iret dX10_card_30 rfl (⟨vi (by unfold qCard; rw [if_neg (by have := gk.2.1; omega)]), a, sameM_rf h⟩)
  · refine wp_iload_n dX10_card_4 rfl ?_
    refine wp_aload_n dX10_card_5 rfl ?_
    refine wp_getM dX10_card_6 flX10_46 rfl rfl ?_
    refine wp_getI dX10_card_9 flX10_168 (gs0 hG) rfl ?_
    refine wp_icmpge 29 dX10_card_12 (by decide) (by first | assumption | (unfold InR; omega)) (by first | assumption | (unfold InR; omega)) (fun c12 => ?_) (fun c12 => ?_)
    · refine wp_iconst dX10_card_29 ?_
      exact wp_iret dX10_card_30 rfl (⟨vi (by unfold qCard; rw [if_neg (by have := gk.2.1; omega)]), a, sameM_rf h⟩)
    · refine wp_iload_n dX10_card_15 rfl ?_
      refine wp_iconst dX10_card_16 ?_
      refine wp_icmpge 29 dX10_card_17 (by decide) (by first | assumption | (unfold InR; omega)) (by first | assumption | (unfold InR; omega)) (fun c17 => ?_) (fun c17 => ?_)
      · refine wp_iconst dX10_card_29 ?_
        exact wp_iret dX10_card_30 rfl (⟨vi (by unfold qCard; rw [if_neg (by have := gk.2.1; omega)]), a, sameM_rf h⟩)
      · refine wp_iload_n dX10_card_20 rfl ?_
        refine wp_iflt 29 dX10_card_21 (by decide) (by first | assumption | (unfold InR; omega)) (fun c21 => ?_) (fun c21 => ?_)
        · refine wp_iconst dX10_card_29 ?_
          exact wp_iret dX10_card_30 rfl (⟨vi (by unfold qCard; rw [if_neg (by have := gk.2.1; omega)]), a, sameM_rf h⟩)
        · refine wp_iload_n dX10_card_24 rfl ?_
          refine wp_iconst dX10_card_25 ?_
          refine wp_icmple 31 dX10_card_26 (by decide) (by first | assumption | (unfold InR; omega)) (by first | assumption | (unfold InR; omega)) (fun c26 => ?_) (fun c26 => ?_)
          · have hc : _ := a.2.2.2.2.1.2.2.2.2.2.2 (by have := gk.1; omega) s.toNat (by have := gk.2.1; omega)
            rw [show ((s.toNat : Nat) : Int) = s by omega] at hc
            refine wp_iload_n dX10_card_31 rfl ?_
            refine wp_ifne 47 dX10_card_32 (by decide) (by first | assumption | (unfold InR; omega)) (fun c32 => ?_) (fun c32 => ?_)
            · refine wp_aload_n dX10_card_47 rfl ?_
              refine wp_getM dX10_card_48 flX10_46 rfl rfl ?_
              refine wp_getC dX10_card_51 flX10_174 (gs0 hG) rfl ?_
              refine wp_iload_n dX10_card_54 rfl ?_
              refine wp_iald dX10_card_55 (by first | rfl | exact gs1 hG | exact gs2 hG | exact gs3 hG | exact gs4 hG | exact ws1 hW | exact ws2 hW | assumption) (by omega) (by omega) ?_
              exact wp_iret dX10_card_56 rfl (⟨vi (by unfold qCard; rw [if_pos (by omega)]; first | rw [if_pos (by omega)]; exact hc.1 | rw [if_neg (by omega)]; exact hc.2), a, sameM_rf h⟩)
            · refine wp_aload_n dX10_card_35 rfl ?_
              refine wp_getM dX10_card_36 flX10_46 rfl rfl ?_
              refine wp_getC dX10_card_39 flX10_171 (gs0 hG) rfl ?_
              refine wp_iload_n dX10_card_42 rfl ?_
              refine wp_iald dX10_card_43 (by first | rfl | exact gs1 hG | exact gs2 hG | exact gs3 hG | exact gs4 hG | exact ws1 hW | exact ws2 hW | assumption) (by omega) (by omega) ?_
              refine wp_goto 56 dX10_card_44 (by decide) ?_
              exact wp_iret dX10_card_56 rfl (⟨vi (by unfold qCard; rw [if_pos (by omega)]; first | rw [if_pos (by omega)]; exact hc.1 | rw [if_neg (by omega)]; exact hc.2), a, sameM_rf h⟩)
          · refine wp_iconst dX10_card_29 ?_
            exact wp_iret dX10_card_30 rfl (⟨vi (by unfold qCard; rw [if_neg (by have := gk.2.1; omega)]), a, sameM_rf h⟩)

set_option maxRecDepth 20000 in
theorem S_X10_count {X : Cx} {h : Hp} {σ : Sg} (a : AC h σ) (o : SOK σ) {w : Int} (hw : InR w) : Spec X mX10_count 30 [.ref (adr X 0), .int (iI w)] h (fun rv h' => rv = some (.int (iI (qCount σ w))) ∧ AC h' σ ∧ sameM h h') := by
  have g := a.gb o
  have hG := g.1
  have gk := o.2.2.2.1
  have gb := gk.b
  have gkb := gk.2.1
  have e4 : hI h (hR h 0 6) 4 = gP (sG σ) := a.2.2.2.2.1.1
  have e5 : hI h (hR h 0 6) 5 = gA (sG σ) := a.2.2.2.2.1.2.1
  have e6 : hI h (hR h 0 6) 6 = gK (sG σ) := a.2.2.2.2.1.2.2.1
  have he : hI h (hR h 0 6) 4 % 2 = 0 := by omega
  refine spec_wp (Nat.le_of_ble_eq_true rfl) (by decide +kernel) ?_
  refine wp_loc [(0, .ref (adr X 0)), (1, .int (iI w))] ⟨rfl, rfl, trivial⟩ ?_
  refine wp_iload_n dX10_count_0 rfl ?_
  rcases (show w = 0 ∨ w = 1 ∨ w = 2 ∨ w = 3 ∨ w = 4 ∨ w = 5 ∨ w = 6 ∨ w = 7 ∨ (w < 0 ∨ 7 < w) by omega) with rfl | rfl | rfl | rfl | rfl | rfl | rfl | rfl | hw2
  · refine wp_tsi 48 dX10_count_1 (by unfold InR; omega) (by decide) (by decide) rfl (by decide) ?_
    refine wp_aload_n dX10_count_48 rfl ?_
    refine wp_getM dX10_count_49 flX10_46 rfl rfl ?_
    refine wp_getI dX10_count_52 flX10_137 (gs0 hG) rfl ?_
    exact wp_iret dX10_count_55 rfl (⟨vi (by simp [qCount, e4]), a, sameM_rf h⟩)
  · refine wp_tsi 56 dX10_count_1 (by unfold InR; omega) (by decide) (by decide) rfl (by decide) ?_
    refine wp_aload_n dX10_count_56 rfl ?_
    refine wp_getM dX10_count_57 flX10_46 rfl rfl ?_
    refine wp_getI dX10_count_60 flX10_177 (gs0 hG) rfl ?_
    exact wp_iret dX10_count_63 rfl (⟨vi (by simp [qCount, e5]), a, sameM_rf h⟩)
  · refine wp_tsi 64 dX10_count_1 (by unfold InR; omega) (by decide) (by decide) rfl (by decide) ?_
    refine wp_aload_n dX10_count_64 rfl ?_
    refine wp_getM dX10_count_65 flX10_46 rfl rfl ?_
    refine wp_getI dX10_count_68 flX10_168 (gs0 hG) rfl ?_
    exact wp_iret dX10_count_71 rfl (⟨vi (by simp [qCount, e6]), a, sameM_rf h⟩)
  · refine wp_tsi 72 dX10_count_1 (by unfold InR; omega) (by decide) (by decide) rfl (by decide) ?_
    refine wp_aload_n dX10_count_72 rfl ?_
    refine wp_getI dX10_count_73 flX10_36 rfl rfl ?_
    exact wp_iret dX10_count_76 rfl (⟨vi (by simp [qCount, a.2.1.1]), a, sameM_rf h⟩)
  · refine wp_tsi 77 dX10_count_1 (by unfold InR; omega) (by decide) (by decide) rfl (by decide) ?_
    refine wp_aload_n dX10_count_77 rfl ?_
    refine wp_getC dX10_count_78 flX10_10 rfl rfl ?_
    refine wp_getI dX10_count_81 flX10_107 rfl rfl ?_
    exact wp_iret dX10_count_84 rfl (⟨vi (by simp [qCount, a.1.1]), a, sameM_rf h⟩)
  · refine wp_tsi 85 dX10_count_1 (by unfold InR; omega) (by decide) (by decide) rfl (by decide) ?_
    refine wp_aload_n dX10_count_85 rfl ?_
    refine wp_getI dX10_count_86 flX10_40 rfl rfl ?_
    exact wp_iret dX10_count_89 rfl (⟨vi (by simp [qCount, a.2.2.1]), a, sameM_rf h⟩)
  · refine wp_tsi 90 dX10_count_1 (by unfold InR; omega) (by decide) (by decide) rfl (by decide) ?_
    refine wp_aload_n dX10_count_90 rfl ?_
    refine wp_getC dX10_count_91 flX10_56 rfl rfl ?_
    refine wp_getI dX10_count_94 flX10_128 rfl rfl ?_
    exact wp_iret dX10_count_97 rfl (⟨vi (by simp [qCount, a.2.2.2.2.2.1.1]), a, sameM_rf h⟩)
  · refine wp_tsi 98 dX10_count_1 (by unfold InR; omega) (by decide) (by decide) rfl (by decide) ?_
    refine wp_aload_n dX10_count_98 rfl ?_
    refine wp_getC dX10_count_99 flX10_63 rfl rfl ?_
    refine wp_getI dX10_count_102 flX10_180 rfl rfl ?_
    exact wp_iret dX10_count_105 rfl (⟨vi (by simp [qCount, a.2.2.2.2.2.2.1.1]), a, sameM_rf h⟩)
  · refine wp_tso 106 dX10_count_1 hw hw2 (by decide) ?_
    refine wp_ldc (z := -1000000) dX10_count_106 kcX10_181 ?_
    exact wp_iret dX10_count_108 rfl (⟨vi (by unfold qCount; rw [if_neg (by omega), if_neg (by omega), if_neg (by omega), if_neg (by omega), if_neg (by omega), if_neg (by omega), if_neg (by omega), if_neg (by omega)]), a, sameM_rf h⟩)

set_option maxRecDepth 20000 in
theorem S_X10_sawn {X : Cx} {h : Hp} {σ : Sg} (a : AC h σ) (o : SOK σ) {p w : Int} (hp : InR p) (hw : InR w) : Spec X mX10_sawn 30 [.ref (adr X 0), .int (iI p), .int (iI w)] h (fun rv h' => rv = some (.int (iI (qSawn σ p w))) ∧ AC h' σ ∧ sameM h h') := by
  have g := a.gb o
  have hG := g.1
  have gk := o.2.2.2.1
  have gb := gk.b
  have gkb := gk.2.1
  have e4 : hI h (hR h 0 6) 4 = gP (sG σ) := a.2.2.2.2.1.1
  have e5 : hI h (hR h 0 6) 5 = gA (sG σ) := a.2.2.2.2.1.2.1
  have e6 : hI h (hR h 0 6) 6 = gK (sG σ) := a.2.2.2.2.1.2.2.1
  have he : hI h (hR h 0 6) 4 % 2 = 0 := by omega
  have eS : shO h (hR h 0 6) = gS (sG σ) := a.2.2.2.2.1.2.2.2.2.2.1
  have vb := gapF_b gk p
  have ub := iabs_b (n := 396) vb
  refine spec_wp (Nat.le_of_ble_eq_true rfl) (by decide +kernel) ?_
  refine wp_loc [(0, .ref (adr X 0)), (1, .int (iI p)), (2, .int (iI w))] ⟨rfl, rfl, rfl, trivial⟩ ?_
  refine wp_aload_n dX10_sawn_0 rfl ?_
  refine wp_getM dX10_sawn_1 flX10_46 rfl rfl ?_
  refine wp_iload_n dX10_sawn_4 rfl ?_
  refine wp_callVp dX10_sawn_5 mlX10_152 mvX3_has (S_X3_has g (by first | assumption | (unfold InR; omega))) rfl rfl (by decide) (by decide) (gs0 hG) rfl rfl (Nat.le_of_ble_eq_true rfl) ?_
  refine wp_ifeqb 20 dX10_sawn_8 (by decide) (fun c8 => ?_) (fun c8 => ?_)
  · refine wp_iconst dX10_sawn_20 ?_
    exact wp_iret dX10_sawn_21 rfl (⟨vi (by unfold qSawn; rw [if_neg (by omega)]), a, sameM_rf h⟩)
  · refine wp_iload_n dX10_sawn_11 rfl ?_
    refine wp_iflt 20 dX10_sawn_12 (by decide) (by first | assumption | (unfold InR; omega)) (fun c12 => ?_) (fun c12 => ?_)
    · refine wp_iconst dX10_sawn_20 ?_
      exact wp_iret dX10_sawn_21 rfl (⟨vi (by unfold qSawn; rw [if_neg (by omega)]), a, sameM_rf h⟩)
    · refine wp_iload_n dX10_sawn_15 rfl ?_
      refine wp_iconst dX10_sawn_16 ?_
      refine wp_icmple 22 dX10_sawn_17 (by decide) (by first | assumption | (unfold InR; omega)) (by first | assumption | (unfold InR; omega)) (fun c17 => ?_) (fun c17 => ?_)
      · refine wp_aload_n dX10_sawn_22 rfl ?_
        refine wp_getM dX10_sawn_23 flX10_46 rfl rfl ?_
        refine wp_iload_n dX10_sawn_26 rfl ?_
        refine wp_callVp dX10_sawn_27 mlX10_182 mvX3_gapAt (S_X3_gapAt g (by assumption) (by omega) (by omega)) rfl rfl (by decide) (by decide) (gs0 hG) rfl rfl (Nat.le_of_ble_eq_true rfl) ?_
        rw [a.gap o (by omega)]
        generalize hv : gapF (sG σ) p = v at vb ub
        refine wp_istore_n dX10_sawn_30 (by decide) ?_
        refine wp_iload_n dX10_sawn_31 rfl ?_
        refine wp_ifne 37 dX10_sawn_32 (by decide) (by first | assumption | (unfold InR; omega)) (fun c32 => ?_) (fun c32 => ?_)
        · refine wp_iload_n dX10_sawn_37 rfl ?_
          refine wp_callSp dX10_sawn_38 mlX10_222 msJ9_abs_0f7a4 (S_J9_abs_0f7a4 (by unfold InR; omega)) rfl rfl (by decide) (by decide) (Nat.le_of_ble_eq_true rfl) ?_
          refine wp_istore dX10_sawn_41 (by decide) ?_
          obtain ⟨b, hb⟩ : ∃ b, b = iabs v := ⟨_, rfl⟩
          rw [← hb] at ub ⊢
          obtain ⟨V, hV0⟩ : ∃ V : Int, V = qSawn σ p w := ⟨_, rfl⟩
          rw [← hV0]
          unfold qSawn at hV0
          rw [if_pos (by omega), hv, if_neg (by omega), ← hb] at hV0
          have L : ∀ (n : Nat) (l : Int), (4 ≤ l + 2 * n ∧ l + 2 * n ≤ 5) → (0 ≤ l) → (V = sawF (gS (sG σ)) b w n l) → WP X mX10_sawn 30 54 [(0, .ref (adr X 0)), (1, .int (iI p)), (2, .int (iI w)), (4, .int (iI b)), (5, .int (iI l))] [] h (fun rv h' => rv = some (.int (iI V)) ∧ AC h' σ ∧ sameM h h') := by
            intro n
            induction n with
            | zero =>
              intro l hn hl hV
              refine wp_iload dX10_sawn_54 rfl ?_
              refine wp_iconst dX10_sawn_56 ?_
              refine wp_icmpge 95 dX10_sawn_57 (by decide) (by unfold InR; omega) (by unfold InR; omega) (fun c57 => ?_) (fun c57 => ?_)
              · refine wp_iconst dX10_sawn_95 ?_
                exact wp_iret dX10_sawn_96 rfl (⟨vi (by rw [hV]; rfl), a, sameM_rf h⟩)
              · exact absurd c57 (by omega)
            | succ n ih =>
              intro l hn hl hV
              refine wp_iload dX10_sawn_54 rfl ?_
              refine wp_iconst dX10_sawn_56 ?_
              refine wp_icmpge 95 dX10_sawn_57 (by decide) (by unfold InR; omega) (by unfold InR; omega) (fun c57 => ?_) (fun c57 => ?_)
              · exact absurd c57 (by omega)
              · refine wp_aload_n dX10_sawn_60 rfl ?_
                refine wp_getM dX10_sawn_61 flX10_46 rfl rfl ?_
                refine wp_iload dX10_sawn_64 rfl ?_
                refine wp_callVp dX10_sawn_66 mlX10_165 mvX3_shortOf (S_X3_shortOf g (by first | assumption | (unfold InR; omega))) rfl rfl (by decide) (by decide) (gs0 hG) rfl rfl (Nat.le_of_ble_eq_true rfl) ?_
                refine wp_iload dX10_sawn_69 rfl ?_
                refine wp_iadd dX10_sawn_71 ?_
                refine wp_bipush dX10_sawn_72 rfl ?_
                have sb := shO_b g l
                refine wp_icmpgt 89 dX10_sawn_74 (by decide) (by unfold InR; omega) (by unfold InR; omega) (fun c74 => ?_) (fun c74 => ?_)
                · refine wp_iinc dX10_sawn_89 rfl (by decide) ?_
                  refine wp_goto 54 dX10_sawn_92 (by decide) ?_
                  refine wp_loc [(0, .ref (adr X 0)), (1, .int (iI p)), (2, .int (iI w)), (4, .int (iI b)), (5, .int (iI (l + 2)))] ⟨rfl, rfl, rfl, rfl, rfl, trivial⟩ ?_
                  exact ih (l + 2) (by omega) (by omega) (hV.trans (by rw [sawF, ← eS, if_neg (by omega)]))
                · refine wp_iload_n dX10_sawn_77 rfl ?_
                  refine wp_ifne 86 dX10_sawn_78 (by decide) (by unfold InR; omega) (fun c78 => ?_) (fun c78 => ?_)
                  · refine wp_iload dX10_sawn_86 rfl ?_
                    exact wp_iret dX10_sawn_88 rfl (⟨vi (by rw [hV, sawF, ← eS]; simp [Int.not_lt.mp c74, c78]), a, sameM_rf h⟩)
                  · refine wp_iload dX10_sawn_81 rfl ?_
                    refine wp_goto 88 dX10_sawn_83 (by decide) ?_
                    exact wp_iret dX10_sawn_88 rfl (⟨vi (by rw [hV, sawF, ← eS]; simp [Int.not_lt.mp c74, c78]), a, sameM_rf h⟩)
          refine wp_iload_n dX10_sawn_43 rfl ?_
          refine wp_ifle 51 dX10_sawn_44 (by decide) (by first | assumption | (unfold InR; omega)) (fun c44 => ?_) (fun c44 => ?_)
          · refine wp_iconst dX10_sawn_51 ?_
            refine wp_istore dX10_sawn_52 (by decide) ?_
            first
              | refine wp_loc [(0, .ref (adr X 0)), (1, .int (iI p)), (2, .int (iI w)), (4, .int (iI b)), (5, .int (iI 0))] ⟨rfl, rfl, rfl, rfl, rfl, trivial⟩ ?_
                exact L 2 0 (by omega) (by omega) (by rw [hV0, if_pos (by omega)])
              | refine wp_loc [(0, .ref (adr X 0)), (1, .int (iI p)), (2, .int (iI w)), (4, .int (iI b)), (5, .int (iI 1))] ⟨rfl, rfl, rfl, rfl, rfl, trivial⟩ ?_
                exact L 2 1 (by omega) (by omega) (by rw [hV0, if_neg (by omega)])
          · refine wp_iconst dX10_sawn_47 ?_
            refine wp_goto 52 dX10_sawn_48 (by decide) ?_
            refine wp_istore dX10_sawn_52 (by decide) ?_
            first
              | refine wp_loc [(0, .ref (adr X 0)), (1, .int (iI p)), (2, .int (iI w)), (4, .int (iI b)), (5, .int (iI 0))] ⟨rfl, rfl, rfl, rfl, rfl, trivial⟩ ?_
                exact L 2 0 (by omega) (by omega) (by rw [hV0, if_pos (by omega)])
              | refine wp_loc [(0, .ref (adr X 0)), (1, .int (iI p)), (2, .int (iI w)), (4, .int (iI b)), (5, .int (iI 1))] ⟨rfl, rfl, rfl, rfl, rfl, trivial⟩ ?_
                exact L 2 1 (by omega) (by omega) (by rw [hV0, if_neg (by omega)])
        · refine wp_iconst dX10_sawn_35 ?_
          exact wp_iret dX10_sawn_36 rfl (⟨vi (by unfold qSawn; rw [if_pos (by omega), hv, if_pos (by omega)]), a, sameM_rf h⟩)
      · refine wp_iconst dX10_sawn_20 ?_
        exact wp_iret dX10_sawn_21 rfl (⟨vi (by unfold qSawn; rw [if_neg (by omega)]), a, sameM_rf h⟩)

def sumF (S : Int → Int) : Nat → Int → Int → Int
  | 0, _, a => a
  | n + 1, l, a => sumF S n (l + 1) (a + S l)

set_option maxRecDepth 20000 in
theorem S_X10_less {X : Cx} {h : Hp} {σ : Sg} (a : AC h σ) (o : SOK σ)  : Spec X mX10_less 30 [.ref (adr X 0)] h (fun rv h' => rv = some (.int (iI (qLess σ))) ∧ AC h' σ ∧ sameM h h') := by
  have g := a.gb o
  have hG := g.1
  have gk := o.2.2.2.1
  have gb := gk.b
  have gkb := gk.2.1
  have e4 : hI h (hR h 0 6) 4 = gP (sG σ) := a.2.2.2.2.1.1
  have e5 : hI h (hR h 0 6) 5 = gA (sG σ) := a.2.2.2.2.1.2.1
  have e6 : hI h (hR h 0 6) 6 = gK (sG σ) := a.2.2.2.2.1.2.2.1
  have he : hI h (hR h 0 6) 4 % 2 = 0 := by omega
  obtain ⟨V, hV0⟩ : ∃ V : Int, V = qLess σ := ⟨_, rfl⟩
  rw [← hV0]
  unfold qLess at hV0
  have eS : shO h (hR h 0 6) = gS (sG σ) := a.2.2.2.2.1.2.2.2.2.2.1
  refine spec_wp (Nat.le_of_ble_eq_true rfl) (by decide +kernel) ?_
  refine wp_loc [(0, .ref (adr X 0))] ⟨rfl, trivial⟩ ?_
  have L : ∀ (n : Nat) (l s : Int), (l + n = 4) → (0 ≤ l) → (V = sumF (shO h (hR h 0 6)) n l s) → WP X mX10_less 30 13 [(0, .ref (adr X 0)), (1, .int (iI s)), (2, .int (iI l))] [] h (fun rv h' => rv = some (.int (iI V)) ∧ AC h' σ ∧ sameM h h') := by
    intro n
    induction n with
    | zero =>
      intro l s hn hl hV
      refine wp_iload_n dX10_less_13 rfl ?_
      refine wp_iconst dX10_less_14 ?_
      refine wp_icmpge 35 dX10_less_15 (by decide) (by unfold InR; omega) (by unfold InR; omega) (fun c15 => ?_) (fun c15 => ?_)
      · refine wp_iload_n dX10_less_35 rfl ?_
        exact wp_iret dX10_less_36 rfl (⟨vi (by rw [hV]; rfl), a, sameM_rf h⟩)
      · exact absurd c15 (by omega)
    | succ n ih =>
      intro l s hn hl hV
      refine wp_iload_n dX10_less_13 rfl ?_
      refine wp_iconst dX10_less_14 ?_
      refine wp_icmpge 35 dX10_less_15 (by decide) (by unfold InR; omega) (by unfold InR; omega) (fun c15 => ?_) (fun c15 => ?_)
      · exact absurd c15 (by omega)
      · refine wp_iload_n dX10_less_18 rfl ?_
        refine wp_aload_n dX10_less_19 rfl ?_
        refine wp_getM dX10_less_20 flX10_46 rfl rfl ?_
        refine wp_iload_n dX10_less_23 rfl ?_
        refine wp_callVp dX10_less_24 mlX10_165 mvX3_shortOf (S_X3_shortOf g (by first | assumption | (unfold InR; omega))) rfl rfl (by decide) (by decide) (gs0 hG) rfl rfl (Nat.le_of_ble_eq_true rfl) ?_
        refine wp_iadd dX10_less_27 ?_
        refine wp_istore_n dX10_less_28 (by decide) ?_
        refine wp_iinc dX10_less_29 rfl (by decide) ?_
        refine wp_goto 13 dX10_less_32 (by decide) ?_
        refine wp_loc [(0, .ref (adr X 0)), (1, .int (iI (s + shO h (hR h 0 6) l))), (2, .int (iI (l + 1)))] ⟨rfl, rfl, rfl, trivial⟩ ?_
        exact ih (l + 1) _ (by omega) (by omega) (hV.trans (by rw [sumF]))
  refine wp_aload_n dX10_less_0 rfl ?_
  refine wp_callVp dX10_less_1 mlX10_148 mvX10_noGarden (S_X10_noGarden g) rfl rfl (by decide) (by decide) rfl rfl rfl (Nat.le_of_ble_eq_true rfl) ?_
  refine wp_ifeqb 9 dX10_less_4 (by decide) (fun c4 => ?_) (fun c4 => ?_)
  · refine wp_iconst dX10_less_9 ?_
    refine wp_istore_n dX10_less_10 (by decide) ?_
    refine wp_iconst dX10_less_11 ?_
    refine wp_istore_n dX10_less_12 (by decide) ?_
    refine wp_loc [(0, .ref (adr X 0)), (1, .int (iI 0)), (2, .int (iI 0))] ⟨rfl, rfl, rfl, trivial⟩ ?_
    exact L 4 0 0 (by omega) (by omega) (by rw [hV0, if_neg (by omega), eS]; simp [sumF])
  · refine wp_iconst dX10_less_7 ?_
    exact wp_iret dX10_less_8 rfl (⟨vi (by rw [hV0, if_pos (by omega)]), a, sameM_rf h⟩)

set_option maxRecDepth 20000 in
theorem S_X10_jug {X : Cx} {h : Hp} {σ : Sg} (a : AC h σ) (o : SOK σ) {p l : Int} (hp : InR p) (hl : InR l) : Spec X mX10_jug 30 [.ref (adr X 0), .int (iI p), .int (iI l)] h (fun rv h' => rv = some (.int (iI (qJug σ p l))) ∧ AC h' σ ∧ sameM h h') := by
  have g := a.gb o
  have hG := g.1
  have gk := o.2.2.2.1
  have gb := gk.b
  have gkb := gk.2.1
  have e4 : hI h (hR h 0 6) 4 = gP (sG σ) := a.2.2.2.2.1.1
  have e5 : hI h (hR h 0 6) 5 = gA (sG σ) := a.2.2.2.2.1.2.1
  have e6 : hI h (hR h 0 6) 6 = gK (sG σ) := a.2.2.2.2.1.2.2.1
  have he : hI h (hR h 0 6) 4 % 2 = 0 := by omega
  have vb := gapF_b gk p
  refine spec_wp (Nat.le_of_ble_eq_true rfl) (by decide +kernel) ?_
  refine wp_loc [(0, .ref (adr X 0)), (1, .int (iI p)), (2, .int (iI l))] ⟨rfl, rfl, rfl, trivial⟩ ?_
  refine wp_aload_n dX10_jug_0 rfl ?_
  refine wp_getM dX10_jug_1 flX10_46 rfl rfl ?_
  refine wp_iload_n dX10_jug_4 rfl ?_
  refine wp_callVp dX10_jug_5 mlX10_152 mvX3_has (S_X3_has g (by first | assumption | (unfold InR; omega))) rfl rfl (by decide) (by decide) (gs0 hG) rfl rfl (Nat.le_of_ble_eq_true rfl) ?_
  refine wp_ifeqb 18 dX10_jug_8 (by decide) (fun c8 => ?_) (fun c8 => ?_)
  · refine wp_iconst dX10_jug_18 ?_
    exact wp_iret dX10_jug_19 rfl (⟨vi (by unfold qJug; rw [if_neg (by omega)]), a, sameM_rf h⟩)
  · refine wp_iload_n dX10_jug_11 rfl ?_
    refine wp_callSp dX10_jug_12 mlX10_162 msX10_isLeg (S_X10_isLeg (by first | assumption | (unfold InR; omega))) rfl rfl (by decide) (by decide) (Nat.le_of_ble_eq_true rfl) ?_
    refine wp_ifneb 20 dX10_jug_15 (by decide) (fun c15 => ?_) (fun c15 => ?_)
    · refine wp_aload_n dX10_jug_20 rfl ?_
      refine wp_getM dX10_jug_21 flX10_46 rfl rfl ?_
      refine wp_iload_n dX10_jug_24 rfl ?_
      refine wp_callVp dX10_jug_25 mlX10_182 mvX3_gapAt (S_X3_gapAt g (by assumption) (by omega) (by omega)) rfl rfl (by decide) (by decide) (gs0 hG) rfl rfl (Nat.le_of_ble_eq_true rfl) ?_
      rw [a.gap o (by omega)]
      generalize hv : gapF (sG σ) p = v at vb
      refine wp_istore_n dX10_jug_28 (by decide) ?_
      refine wp_iload_n dX10_jug_29 rfl ?_
      refine wp_ifne 36 dX10_jug_30 (by decide) (by first | assumption | (unfold InR; omega)) (fun c30 => ?_) (fun c30 => ?_)
      · refine wp_iload_n dX10_jug_36 rfl ?_
        refine wp_ifle 57 dX10_jug_37 (by decide) (by first | assumption | (unfold InR; omega)) (fun c37 => ?_) (fun c37 => ?_)
        · refine wp_bipush dX10_jug_57 rfl ?_
          refine wp_iconst dX10_jug_59 ?_
          refine wp_iload_n dX10_jug_60 rfl ?_
          refine wp_iconst dX10_jug_61 ?_
          refine wp_iremp dX10_jug_62 (by omega) (by omega) (by unfold InR; omega) (by unfold InR; omega) ?_
          refine wp_ifne 70 dX10_jug_63 (by decide) (by first | assumption | (unfold InR; omega)) (fun c63 => ?_) (fun c63 => ?_)
          · refine wp_iconst dX10_jug_70 ?_
            refine wp_ishl dX10_jug_71 ?_
            refine wp_ior dX10_jug_72 ?_
            exact wp_iret dX10_jug_73 rfl (⟨vi (by unfold qJug; rw [if_pos (by omega), hv, if_neg (by omega), if_neg (by omega)]; rcases (show l = 0 ∨ l = 1 ∨ l = 2 ∨ l = 3 by omega) with rfl | rfl | rfl | rfl <;> first | rfl | omega), a, sameM_rf h⟩)
          · refine wp_iload_n dX10_jug_66 rfl ?_
            refine wp_goto 71 dX10_jug_67 (by decide) ?_
            refine wp_ishl dX10_jug_71 ?_
            refine wp_ior dX10_jug_72 ?_
            exact wp_iret dX10_jug_73 rfl (⟨vi (by unfold qJug; rw [if_pos (by omega), hv, if_neg (by omega), if_neg (by omega)]; rcases (show l = 0 ∨ l = 1 ∨ l = 2 ∨ l = 3 by omega) with rfl | rfl | rfl | rfl <;> first | rfl | omega), a, sameM_rf h⟩)
        · refine wp_iconst dX10_jug_40 ?_
          refine wp_iconst dX10_jug_41 ?_
          refine wp_iload_n dX10_jug_42 rfl ?_
          refine wp_iconst dX10_jug_43 ?_
          refine wp_iremp dX10_jug_44 (by omega) (by omega) (by unfold InR; omega) (by unfold InR; omega) ?_
          refine wp_iconst dX10_jug_45 ?_
          refine wp_icmpne 53 dX10_jug_46 (by decide) (by first | assumption | (unfold InR; omega)) (by first | assumption | (unfold InR; omega)) (fun c46 => ?_) (fun c46 => ?_)
          · refine wp_iconst dX10_jug_53 ?_
            refine wp_ishl dX10_jug_54 ?_
            refine wp_ior dX10_jug_55 ?_
            exact wp_iret dX10_jug_56 rfl (⟨vi (by unfold qJug; rw [if_pos (by omega), hv, if_neg (by omega), if_pos (by omega)]; rcases (show l = 0 ∨ l = 1 ∨ l = 2 ∨ l = 3 by omega) with rfl | rfl | rfl | rfl <;> first | rfl | omega), a, sameM_rf h⟩)
          · refine wp_iload_n dX10_jug_49 rfl ?_
            refine wp_goto 54 dX10_jug_50 (by decide) ?_
            refine wp_ishl dX10_jug_54 ?_
            refine wp_ior dX10_jug_55 ?_
            exact wp_iret dX10_jug_56 rfl (⟨vi (by unfold qJug; rw [if_pos (by omega), hv, if_neg (by omega), if_pos (by omega)]; rcases (show l = 0 ∨ l = 1 ∨ l = 2 ∨ l = 3 by omega) with rfl | rfl | rfl | rfl <;> first | rfl | omega), a, sameM_rf h⟩)
      · refine wp_bipush dX10_jug_33 rfl ?_
        exact wp_iret dX10_jug_35 rfl (⟨vi (by unfold qJug; rw [if_pos (by omega), hv, if_pos (by omega)]), a, sameM_rf h⟩)
    · refine wp_iconst dX10_jug_18 ?_
      exact wp_iret dX10_jug_19 rfl (⟨vi (by unfold qJug; rw [if_neg (by omega)]), a, sameM_rf h⟩)

set_option maxRecDepth 20000 in
theorem S_X10_soup {X : Cx} {h : Hp} {σ : Sg} (a : AC h σ) (o : SOK σ) {v r : Int} (hv : InR v) (hr : InR r) : Spec X mX10_soup 30 [.ref (adr X 0), .int (iI v), .int (iI r)] h (fun rv h' => rv = some (.int (iI (qSoup σ v r))) ∧ AC h' σ ∧ sameM h h') := by
  have g := a.gb o
  have hG := g.1
  have gk := o.2.2.2.1
  have gb := gk.b
  have gkb := gk.2.1
  have e4 : hI h (hR h 0 6) 4 = gP (sG σ) := a.2.2.2.2.1.1
  have e5 : hI h (hR h 0 6) 5 = gA (sG σ) := a.2.2.2.2.1.2.1
  have e6 : hI h (hR h 0 6) 6 = gK (sG σ) := a.2.2.2.2.1.2.2.1
  have he : hI h (hR h 0 6) 4 % 2 = 0 := by omega
  obtain ⟨V, hV0⟩ : ∃ V : Int, V = qSoup σ v r := ⟨_, rfl⟩
  rw [← hV0]
  unfold qSoup at hV0
  refine spec_wp (Nat.le_of_ble_eq_true rfl) (by decide +kernel) ?_
  refine wp_loc [(0, .ref (adr X 0)), (1, .int (iI v)), (2, .int (iI r))] ⟨rfl, rfl, rfl, trivial⟩ ?_
  refine wp_aload_n dX10_soup_0 rfl ?_
  refine wp_callVp dX10_soup_1 mlX10_148 mvX10_noGarden (S_X10_noGarden g) rfl rfl (by decide) (by decide) rfl rfl rfl (Nat.le_of_ble_eq_true rfl) ?_
  refine wp_ifneb 21 dX10_soup_4 (by decide) (fun c4 => ?_) (fun c4 => ?_)
  · refine wp_iconst dX10_soup_21 ?_
    exact wp_iret dX10_soup_22 rfl (⟨vi (by rw [hV0, if_neg (by omega)]), a, sameM_rf h⟩)
  · refine wp_iload_n dX10_soup_7 rfl ?_
    refine wp_callSp dX10_soup_8 mlX10_253 msX10_isTold (S_X10_isTold (by first | assumption | (unfold InR; omega))) rfl rfl (by decide) (by decide) (Nat.le_of_ble_eq_true rfl) ?_
    refine wp_ifeqb 21 dX10_soup_11 (by decide) (fun c11 => ?_) (fun c11 => ?_)
    · refine wp_iconst dX10_soup_21 ?_
      exact wp_iret dX10_soup_22 rfl (⟨vi (by rw [hV0, if_neg (by omega)]), a, sameM_rf h⟩)
    · refine wp_iload_n dX10_soup_14 rfl ?_
      refine wp_callSp dX10_soup_15 mlX10_253 msX10_isTold (S_X10_isTold (by first | assumption | (unfold InR; omega))) rfl rfl (by decide) (by decide) (Nat.le_of_ble_eq_true rfl) ?_
      refine wp_ifneb 23 dX10_soup_18 (by decide) (fun c18 => ?_) (fun c18 => ?_)
      · refine wp_iconst dX10_soup_23 ?_
        refine wp_istore_n dX10_soup_24 (by decide) ?_
        refine wp_iconst dX10_soup_25 ?_
        refine wp_istore dX10_soup_26 (by decide) ?_
        have L : ∀ (n : Nat) (p c : Int), (p + n = gP (sG σ)) → (0 ≤ p ∧ 0 ≤ c) → (V = cntF (soupB (sG σ) v r) n p c) → WP X mX10_soup 30 28 [(0, .ref (adr X 0)), (1, .int (iI v)), (2, .int (iI r)), (3, .int (iI c)), (4, .int (iI p))] [] h (fun rv h' => rv = some (.int (iI V)) ∧ AC h' σ ∧ sameM h h') := by
          intro n
          induction n with
          | zero =>
            intro p c hn hp hV
            refine wp_iload dX10_soup_28 rfl ?_
            refine wp_aload_n dX10_soup_30 rfl ?_
            refine wp_getM dX10_soup_31 flX10_46 rfl rfl ?_
            refine wp_getI dX10_soup_34 flX10_137 (gs0 hG) rfl ?_
            refine wp_icmpge 78 dX10_soup_37 (by decide) (by first | assumption | (unfold InR; omega)) (by first | assumption | (unfold InR; omega)) (fun c37 => ?_) (fun c37 => ?_)
            · refine wp_iload_n dX10_soup_78 rfl ?_
              exact wp_iret dX10_soup_79 rfl (⟨vi (by rw [hV]; rfl), a, sameM_rf h⟩)
            · exact absurd c37 (by omega)
          | succ n ih =>
            intro p c hn hp hV
            refine wp_iload dX10_soup_28 rfl ?_
            refine wp_aload_n dX10_soup_30 rfl ?_
            refine wp_getM dX10_soup_31 flX10_46 rfl rfl ?_
            refine wp_getI dX10_soup_34 flX10_137 (gs0 hG) rfl ?_
            refine wp_icmpge 78 dX10_soup_37 (by decide) (by first | assumption | (unfold InR; omega)) (by first | assumption | (unfold InR; omega)) (fun c37 => ?_) (fun c37 => ?_)
            · exact absurd c37 (by omega)
            · refine wp_aload_n dX10_soup_40 rfl ?_
              refine wp_getM dX10_soup_41 flX10_46 rfl rfl ?_
              refine wp_iload dX10_soup_44 rfl ?_
              refine wp_callVp dX10_soup_46 mlX10_182 mvX3_gapAt (S_X3_gapAt g (by assumption) (by omega) (by omega)) rfl rfl (by decide) (by decide) (gs0 hG) rfl rfl (Nat.le_of_ble_eq_true rfl) ?_
              rw [a.gap o (by omega)]
              have vb := gapF_b gk p
              have ub := iabs_b (n := 396) vb
              refine wp_callSp dX10_soup_49 mlX10_222 msJ9_abs_0f7a4 (S_J9_abs_0f7a4 (by unfold InR; omega)) rfl rfl (by decide) (by decide) (Nat.le_of_ble_eq_true rfl) ?_
              refine wp_iload_n dX10_soup_52 rfl ?_
              refine wp_icmpgt 72 dX10_soup_53 (by decide) (by first | assumption | (unfold InR; omega)) (by first | assumption | (unfold InR; omega)) (fun c53 => ?_) (fun c53 => ?_)
              · refine wp_iinc dX10_soup_72 rfl (by decide) ?_
                refine wp_goto 28 dX10_soup_75 (by decide) ?_
                refine wp_loc [(0, .ref (adr X 0)), (1, .int (iI v)), (2, .int (iI r)), (3, .int (iI _)), (4, .int (iI (p + 1)))] ⟨rfl, rfl, rfl, rfl, rfl, trivial⟩ ?_
                exact ih (p + 1) _ (by omega) (by omega) (hV.trans (by rw [cntF]; simp only [soupB]; first | (simp [Int.not_lt.mp c53, Int.not_lt.mp c66]; done) | (simp [Int.not_le.mpr c66]; done) | (simp [Int.not_le.mpr c53]; done)))
              · refine wp_aload_n dX10_soup_56 rfl ?_
                refine wp_getM dX10_soup_57 flX10_46 rfl rfl ?_
                refine wp_iload dX10_soup_60 rfl ?_
                refine wp_callVp dX10_soup_62 mlX10_185 mvX3_tiltAt (S_X3_tiltAt g (by omega)) rfl rfl (by decide) (by decide) (gs0 hG) rfl rfl (Nat.le_of_ble_eq_true rfl) ?_
                rw [a.tilt]
                have tb := tltF_b gk p
                refine wp_iload_n dX10_soup_65 rfl ?_
                refine wp_icmpgt 72 dX10_soup_66 (by decide) (by first | assumption | (unfold InR; omega)) (by first | assumption | (unfold InR; omega)) (fun c66 => ?_) (fun c66 => ?_)
                · refine wp_iinc dX10_soup_72 rfl (by decide) ?_
                  refine wp_goto 28 dX10_soup_75 (by decide) ?_
                  refine wp_loc [(0, .ref (adr X 0)), (1, .int (iI v)), (2, .int (iI r)), (3, .int (iI _)), (4, .int (iI (p + 1)))] ⟨rfl, rfl, rfl, rfl, rfl, trivial⟩ ?_
                  exact ih (p + 1) _ (by omega) (by omega) (hV.trans (by rw [cntF]; simp only [soupB]; first | (simp [Int.not_lt.mp c53, Int.not_lt.mp c66]; done) | (simp [Int.not_le.mpr c66]; done) | (simp [Int.not_le.mpr c53]; done)))
                · refine wp_iinc dX10_soup_69 rfl (by decide) ?_
                  refine wp_iinc dX10_soup_72 rfl (by decide) ?_
                  refine wp_goto 28 dX10_soup_75 (by decide) ?_
                  refine wp_loc [(0, .ref (adr X 0)), (1, .int (iI v)), (2, .int (iI r)), (3, .int (iI _)), (4, .int (iI (p + 1)))] ⟨rfl, rfl, rfl, rfl, rfl, trivial⟩ ?_
                  exact ih (p + 1) _ (by omega) (by omega) (hV.trans (by rw [cntF]; simp only [soupB]; first | (simp [Int.not_lt.mp c53, Int.not_lt.mp c66]; done) | (simp [Int.not_le.mpr c66]; done) | (simp [Int.not_le.mpr c53]; done)))
        refine wp_loc [(0, .ref (adr X 0)), (1, .int (iI v)), (2, .int (iI r)), (3, .int (iI 0)), (4, .int (iI 0))] ⟨rfl, rfl, rfl, rfl, rfl, trivial⟩ ?_
        exact L (gP (sG σ)).toNat 0 0 (by omega) (by omega) (by rw [hV0, if_pos (by omega)])
      · refine wp_iconst dX10_soup_21 ?_
        exact wp_iret dX10_soup_22 rfl (⟨vi (by rw [hV0, if_neg (by omega)]), a, sameM_rf h⟩)

