/-! PILES; LIKELY -/
def rwS (T N : Int → Int) (v a b c : Int) : Int := if -far T N ≤ -v - T 0 * a - T 1 * b ∧ -v - T 0 * a - T 1 * b ≤ far T N then c + (tab T N (-v - T 0 * a - T 1 * b)).2.2.2 else c
def rwB (T N : Int → Int) (v a : Int) : Nat → Int → Int → Int
  | 0, _, c => c
  | n + 1, b, c => rwB T N v a n (b + 1) (rwS T N v a b c)
def rwA (T N : Int → Int) (v : Int) : Nat → Int → Int → Int
  | 0, _, c => c
  | n + 1, a, c => rwA T N v n (a + 1) (rwB T N v a (2 * N 1 + 1).toNat (-N 1) c)
def rwF (G : Gdn) (v : Int) : Int := rwA (gT G) (gN G) v (2 * gN G 0 + 1).toNat (-gN G 0) 0
def qPiles (σ : Sg) (p : Int) : Int := if 0 ≤ p ∧ p < gP (sG σ) then rwF (sG σ) (gapF (sG σ) p) else -1

set_option maxRecDepth 20000 in
theorem S_X1_rows {X : Cx} {h : Hp} {σ : Sg} {v : Int} (a : AC h σ) (o : SOK σ) (hP : 0 < gP (sG σ)) (hv : -1000 ≤ v ∧ v ≤ 1000) : Spec X mX1_rows 12 [.ref (adr X 36), .ref (adr X (hR h 0 6)), .int (iI v)] h (fun rv h' => rv = some (.int (iI (rwF (sG σ) v))) ∧ AC h' σ ∧ sameM h h') := by
  have g := a.gb o
  have hG := g.1
  have gk := o.2.2.2.1
  have gb := gk.b
  have gkb := gk.2.1
  have e4 : hI h (hR h 0 6) 4 = gP (sG σ) := a.2.2.2.2.1.1
  have e5 : hI h (hR h 0 6) 5 = gA (sG σ) := a.2.2.2.2.1.2.1
  have e6 : hI h (hR h 0 6) 6 = gK (sG σ) := a.2.2.2.2.1.2.2.1
  have he : hI h (hR h 0 6) 4 % 2 = 0 := by omega
  have bd0 := gk.2.2.2 hP 0 (by decide) (by decide)
  have bd1 := gk.2.2.2 hP 1 (by decide) (by decide)
  have bd2 := gk.2.2.2 hP 2 (by decide) (by decide)
  have bd3 := gk.2.2.2 hP 3 (by decide) (by decide)
  have fb := far_b (T := gT (sG σ)) (N := gN (sG σ)) ⟨bd2.1, bd2.2.1, bd2.2.2.1, bd2.2.2.2.1⟩ ⟨bd3.1, bd3.2.1, bd3.2.2.1, bd3.2.2.2.1⟩
  have gg : hR h 0 6 = 20 ∨ hR h 0 6 = 25 := hG
  refine spec_wp (Nat.le_of_ble_eq_true rfl) (by decide +kernel) ?_
  refine wp_loc [(0, .ref (adr X 36)), (1, .ref (adr X (hR h 0 6))), (2, .int (iI v))] ⟨rfl, rfl, rfl, trivial⟩ ?_
  refine wp_aload_n dX1_rows_0 rfl ?_
  refine wp_aload_n dX1_rows_1 rfl ?_
  refine wp_callV dX1_rows_2 mlX1_66 mvX1_build (S_X1_build a o hP) rfl rfl (by decide) (by decide) rfl rfl rfl (Nat.le_of_ble_eq_true rfl) ?_
  rintro rv h2 ⟨rfl, a, s1, hb1, hr1⟩
  have fi : AC h2 σ ∧ sameM h h2 ∧ hI h2 36 5 = 1 ∧ h2.2 = h.2 := ⟨a, s1, hb1, hr1⟩
  have e6r : hR h2 0 6 = hR h 0 6 := by unfold hR; rw [hr1]
  have n0 : hI h2 (hR h 0 6 + 4) (0 : Int).toNat = gN (sG σ) 0 := by rw [← e6r]; exact (a.2.2.2.2.1.2.2.2.2.2.2 hP 0 (by decide)).2
  have n1 : hI h2 (hR h 0 6 + 4) (1 : Int).toNat = gN (sG σ) 1 := by rw [← e6r]; exact (a.2.2.2.2.1.2.2.2.2.2.2 hP 1 (by decide)).2
  refine wp_iconst dX1_rows_5 ?_
  refine wp_istore_n dX1_rows_6 (by decide) ?_
  refine wp_aload_n dX1_rows_7 rfl ?_
  refine wp_getC dX1_rows_8 flX1_35 (gs0 hG) rfl ?_
  refine wp_iconst dX1_rows_11 ?_
  refine wp_iald dX1_rows_12 (by first | rfl | exact gs1 hG | exact gs2 hG | exact gs3 hG | exact gs4 hG | exact ws1 hW | exact ws2 hW | assumption) (by omega) (by omega) ?_
  rw [n0]
  refine wp_istore dX1_rows_13 (by decide) ?_
  refine wp_aload_n dX1_rows_15 rfl ?_
  refine wp_getC dX1_rows_16 flX1_35 (gs0 hG) rfl ?_
  refine wp_iconst dX1_rows_19 ?_
  refine wp_iald dX1_rows_20 (by first | rfl | exact gs1 hG | exact gs2 hG | exact gs3 hG | exact gs4 hG | exact ws1 hW | exact ws2 hW | assumption) (by omega) (by omega) ?_
  rw [n1]
  refine wp_istore dX1_rows_21 (by decide) ?_
  refine wp_iload dX1_rows_23 rfl ?_
  refine wp_ineg dX1_rows_25 ?_
  refine wp_istore dX1_rows_26 (by decide) ?_
  have L : ∀ (n : Nat) (a1 c : Int), (a1 + n = gN (sG σ) 0 + 1) → (-gN (sG σ) 0 ≤ a1) → (rwA (gT (sG σ)) (gN (sG σ)) v n a1 c = rwF (sG σ) v) → WP X mX1_rows 12 28 [(0, .ref (adr X 36)), (1, .ref (adr X (hR h 0 6))), (2, .int (iI v)), (3, .int (iI c)), (4, .int (iI (gN (sG σ) 0))), (5, .int (iI (gN (sG σ) 1))), (6, .int (iI a1))] [] h2 (fun rv h' => rv = some (.int (iI (rwF (sG σ) v))) ∧ AC h' σ ∧ sameM h h') := by
    intro n
    induction n with
    | zero =>
      intro a1 c hn ha1 hT
      refine wp_iload dX1_rows_28 rfl ?_
      refine wp_iload dX1_rows_30 rfl ?_
      refine wp_icmpgt 103 dX1_rows_32 (by decide) (by unfold InR; omega) (by unfold InR; omega) (fun c32 => ?_) (fun c32 => ?_)
      · refine wp_iload_n dX1_rows_103 rfl ?_
        exact wp_iret dX1_rows_104 rfl (⟨vi hT, fi.1, fi.2.1⟩)
      · exact absurd c32 (by omega)
    | succ n iho =>
      intro a1 c hn ha1 hT
      refine wp_iload dX1_rows_28 rfl ?_
      refine wp_iload dX1_rows_30 rfl ?_
      refine wp_icmpgt 103 dX1_rows_32 (by decide) (by unfold InR; omega) (by unfold InR; omega) (fun c32 => ?_) (fun c32 => ?_)
      · exact absurd c32 (by omega)
      · refine wp_iload dX1_rows_35 rfl ?_
        refine wp_ineg dX1_rows_37 ?_
        refine wp_istore dX1_rows_38 (by decide) ?_
        obtain ⟨U, hUd⟩ : ∃ U, U = rwB (gT (sG σ)) (gN (sG σ)) v a1 (2 * gN (sG σ) 1 + 1).toNat (-gN (sG σ) 1) c := ⟨_, rfl⟩
        rw [rwA, ← hUd] at hT
        have Li : ∀ (n2 : Nat) (b1 c : Int), (b1 + n2 = gN (sG σ) 1 + 1) → (-gN (sG σ) 1 ≤ b1) → (rwB (gT (sG σ)) (gN (sG σ)) v a1 n2 b1 c = U) → WP X mX1_rows 12 40 [(0, .ref (adr X 36)), (1, .ref (adr X (hR h 0 6))), (2, .int (iI v)), (3, .int (iI c)), (4, .int (iI (gN (sG σ) 0))), (5, .int (iI (gN (sG σ) 1))), (6, .int (iI a1)), (7, .int (iI b1))] [] h2 (fun rv h' => rv = some (.int (iI (rwF (sG σ) v))) ∧ AC h' σ ∧ sameM h h') := by
          intro n2
          induction n2 with
          | zero =>
            intro b1 c hm hb1 hU
            have a := fi.1
            have e6r : hR h2 0 6 = hR h 0 6 := by unfold hR; rw [fi.2.2.2]
            have t0 : hI h2 (hR h 0 6 + 3) (0 : Int).toNat = gT (sG σ) 0 := by rw [← e6r]; exact (a.2.2.2.2.1.2.2.2.2.2.2 hP 0 (by decide)).1
            have t1 : hI h2 (hR h 0 6 + 3) (1 : Int).toNat = gT (sG σ) 1 := by rw [← e6r]; exact (a.2.2.2.2.1.2.2.2.2.2.2 hP 1 (by decide)).1
            obtain ⟨f4, ftb⟩ := a.2.2.2.2.2.2.2.2.2 fi.2.2.1
            refine wp_iload dX1_rows_40 rfl ?_
            refine wp_iload dX1_rows_42 rfl ?_
            refine wp_icmpgt 97 dX1_rows_44 (by decide) (by unfold InR; omega) (by unfold InR; omega) (fun c44 => ?_) (fun c44 => ?_)
            · refine wp_iinc dX1_rows_97 rfl (by decide) ?_
              refine wp_goto 28 dX1_rows_100 (by decide) ?_
              refine wp_loc [(0, .ref (adr X 36)), (1, .ref (adr X (hR h 0 6))), (2, .int (iI v)), (3, .int (iI c)), (4, .int (iI (gN (sG σ) 0))), (5, .int (iI (gN (sG σ) 1))), (6, .int (iI (a1 + 1)))] ⟨rfl, rfl, rfl, rfl, rfl, rfl, rfl, trivial⟩ ?_
              have hU : c = U := hU
              exact iho (a1 + 1) c (by omega) (by omega) (by rw [hU]; exact hT)
            · exact absurd c44 (by omega)
          | succ n2 ihi =>
            intro b1 c hm hb1 hU
            have a := fi.1
            have e6r : hR h2 0 6 = hR h 0 6 := by unfold hR; rw [fi.2.2.2]
            have t0 : hI h2 (hR h 0 6 + 3) (0 : Int).toNat = gT (sG σ) 0 := by rw [← e6r]; exact (a.2.2.2.2.1.2.2.2.2.2.2 hP 0 (by decide)).1
            have t1 : hI h2 (hR h 0 6 + 3) (1 : Int).toNat = gT (sG σ) 1 := by rw [← e6r]; exact (a.2.2.2.2.1.2.2.2.2.2.2 hP 1 (by decide)).1
            obtain ⟨f4, ftb⟩ := a.2.2.2.2.2.2.2.2.2 fi.2.2.1
            refine wp_iload dX1_rows_40 rfl ?_
            refine wp_iload dX1_rows_42 rfl ?_
            refine wp_icmpgt 97 dX1_rows_44 (by decide) (by unfold InR; omega) (by unfold InR; omega) (fun c44 => ?_) (fun c44 => ?_)
            · exact absurd c44 (by omega)
            · refine wp_aload_n dX1_rows_47 rfl ?_
              refine wp_iload_n dX1_rows_48 rfl ?_
              refine wp_ineg dX1_rows_49 ?_
              refine wp_aload_n dX1_rows_50 rfl ?_
              refine wp_getC dX1_rows_51 flX1_40 (gs0 hG) rfl ?_
              refine wp_iconst dX1_rows_54 ?_
              refine wp_iald dX1_rows_55 (by first | rfl | exact gs1 hG | exact gs2 hG | exact gs3 hG | exact gs4 hG | exact ws1 hW | exact ws2 hW | assumption) (by omega) (by omega) ?_
              refine wp_iload dX1_rows_56 rfl ?_
              refine wp_imul dX1_rows_58 ?_
              refine wp_isub dX1_rows_59 ?_
              refine wp_aload_n dX1_rows_60 rfl ?_
              refine wp_getC dX1_rows_61 flX1_40 (gs0 hG) rfl ?_
              refine wp_iconst dX1_rows_64 ?_
              refine wp_iald dX1_rows_65 (by first | rfl | exact gs1 hG | exact gs2 hG | exact gs3 hG | exact gs4 hG | exact ws1 hW | exact ws2 hW | assumption) (by omega) (by omega) ?_
              refine wp_iload dX1_rows_66 rfl ?_
              refine wp_imul dX1_rows_68 ?_
              refine wp_isub dX1_rows_69 ?_
              rw [t0, t1]
              have m1 := mul_bb (A := gN (sG σ) 0) (B := 20) (s := a1) (z := gT (sG σ) 0) (by omega) (by omega) (by omega)
              have m2 := mul_bb (A := gN (sG σ) 1) (B := 20) (s := b1) (z := gT (sG σ) 1) (by omega) (by omega) (by omega)
              have m3 := mul_b (A := 20) (B := 9) (s := gT (sG σ) 0) (z := gN (sG σ) 0) (by omega) (by omega) (by omega)
              have m4 := mul_b (A := 20) (B := 9) (s := gT (sG σ) 1) (z := gN (sG σ) 1) (by omega) (by omega) (by omega)
              obtain ⟨s, hsd⟩ : ∃ s : Int, s = -v - gT (sG σ) 0 * a1 - gT (sG σ) 1 * b1 := ⟨_, rfl⟩
              have sbd : -3000 ≤ s ∧ s ≤ 3000 := by omega
              rw [← hsd]
              refine wp_callVp dX1_rows_70 mlX1_59 mvX1_placeOf (S_X1_placeOf (by omega) (by omega)) rfl rfl (by decide) (by decide) rfl rfl rfl (Nat.le_of_ble_eq_true rfl) ?_
              rw [f4]
              rw [rwB, rwS, ← hsd] at hU
              by_cases hin : -far (gT (sG σ)) (gN (sG σ)) ≤ s ∧ s ≤ far (gT (sG σ)) (gN (sG σ))
              · rw [if_pos hin]
                rw [if_pos hin] at hU
                obtain ⟨w1, w2, w3⟩ := ftb s hin.1 hin.2
                refine wp_istore dX1_rows_73 (by decide) ?_
                refine wp_iload dX1_rows_75 rfl ?_
                refine wp_iconst dX1_rows_77 ?_
                refine wp_icmpeq 91 dX1_rows_78 (by decide) (by unfold InR; omega) (by unfold InR; omega) (fun c78 => ?_) (fun c78 => ?_)
                · exact absurd c78 (by omega)
                · refine wp_iload_n dX1_rows_81 rfl ?_
                  refine wp_aload_n dX1_rows_82 rfl ?_
                  refine wp_getC dX1_rows_83 flX1_21 rfl rfl ?_
                  refine wp_iload dX1_rows_86 rfl ?_
                  refine wp_iald dX1_rows_88 (by first | rfl | exact gs1 hG | exact gs2 hG | exact gs3 hG | exact gs4 hG | exact ws1 hW | exact ws2 hW | assumption) (by omega) (by omega) ?_
                  rw [w2]
                  refine wp_iadd dX1_rows_89 ?_
                  refine wp_istore_n dX1_rows_90 (by decide) ?_
                  refine wp_iinc dX1_rows_91 rfl (by decide) ?_
                  refine wp_goto 40 dX1_rows_94 (by decide) ?_
                  refine wp_loc [(0, .ref (adr X 36)), (1, .ref (adr X (hR h 0 6))), (2, .int (iI v)), (3, .int (iI _)), (4, .int (iI (gN (sG σ) 0))), (5, .int (iI (gN (sG σ) 1))), (6, .int (iI a1)), (7, .int (iI (b1 + 1)))] ⟨rfl, rfl, rfl, rfl, rfl, rfl, rfl, rfl, trivial⟩ ?_
                  exact ihi (b1 + 1) _ (by omega) (by omega) hU
              · rw [if_neg hin]
                rw [if_neg hin] at hU
                refine wp_istore dX1_rows_73 (by decide) ?_
                refine wp_iload dX1_rows_75 rfl ?_
                refine wp_iconst dX1_rows_77 ?_
                refine wp_icmpeq 91 dX1_rows_78 (by decide) (by unfold InR; omega) (by unfold InR; omega) (fun c78 => ?_) (fun c78 => ?_)
                · refine wp_iinc dX1_rows_91 rfl (by decide) ?_
                  refine wp_goto 40 dX1_rows_94 (by decide) ?_
                  refine wp_loc [(0, .ref (adr X 36)), (1, .ref (adr X (hR h 0 6))), (2, .int (iI v)), (3, .int (iI _)), (4, .int (iI (gN (sG σ) 0))), (5, .int (iI (gN (sG σ) 1))), (6, .int (iI a1)), (7, .int (iI (b1 + 1)))] ⟨rfl, rfl, rfl, rfl, rfl, rfl, rfl, rfl, trivial⟩ ?_
                  exact ihi (b1 + 1) _ (by omega) (by omega) hU
                · exact absurd rfl c78
        refine wp_loc [(0, .ref (adr X 36)), (1, .ref (adr X (hR h 0 6))), (2, .int (iI v)), (3, .int (iI c)), (4, .int (iI (gN (sG σ) 0))), (5, .int (iI (gN (sG σ) 1))), (6, .int (iI a1)), (7, .int (iI (-gN (sG σ) 1)))] ⟨rfl, rfl, rfl, rfl, rfl, rfl, rfl, rfl, trivial⟩ ?_
        exact Li (2 * gN (sG σ) 1 + 1).toNat (-gN (sG σ) 1) c (by omega) (by omega) hUd.symm
  refine wp_loc [(0, .ref (adr X 36)), (1, .ref (adr X (hR h 0 6))), (2, .int (iI v)), (3, .int (iI 0)), (4, .int (iI (gN (sG σ) 0))), (5, .int (iI (gN (sG σ) 1))), (6, .int (iI (-gN (sG σ) 0)))] ⟨rfl, rfl, rfl, rfl, rfl, rfl, rfl, trivial⟩ ?_
  exact L (2 * gN (sG σ) 0 + 1).toNat (-gN (sG σ) 0) 0 (by omega) (by omega) rfl

set_option maxRecDepth 20000 in
theorem S_X10_piles {X : Cx} {h : Hp} {σ : Sg} (a : AC h σ) (o : SOK σ) {p : Int} (hp : InR p) : Spec X mX10_piles 30 [.ref (adr X 0), .int (iI p)] h (fun rv h' => rv = some (.int (iI (qPiles σ p))) ∧ AC h' σ ∧ sameM h h') := by
  have g := a.gb o
  have hG := g.1
  have gk := o.2.2.2.1
  have gb := gk.b
  have gkb := gk.2.1
  have e4 : hI h (hR h 0 6) 4 = gP (sG σ) := a.2.2.2.2.1.1
  have e5 : hI h (hR h 0 6) 5 = gA (sG σ) := a.2.2.2.2.1.2.1
  have e6 : hI h (hR h 0 6) 6 = gK (sG σ) := a.2.2.2.2.1.2.2.1
  have he : hI h (hR h 0 6) 4 % 2 = 0 := by omega
  have vb := gapF_b gk p
  refine spec_wp (Nat.le_of_ble_eq_true rfl) (by decide +kernel) ?_
  refine wp_loc [(0, .ref (adr X 0)), (1, .int (iI p))] ⟨rfl, rfl, trivial⟩ ?_
  refine wp_aload_n dX10_piles_0 rfl ?_
  refine wp_getM dX10_piles_1 flX10_46 rfl rfl ?_
  refine wp_iload_n dX10_piles_4 rfl ?_
  refine wp_callVp dX10_piles_5 mlX10_152 mvX3_has (S_X3_has g (by first | assumption | (unfold InR; omega))) rfl rfl (by decide) (by decide) (gs0 hG) rfl rfl (Nat.le_of_ble_eq_true rfl) ?_
  refine wp_ifeqb 33 dX10_piles_8 (by decide) (fun c8 => ?_) (fun c8 => ?_)
  · refine wp_iconst dX10_piles_33 ?_
    exact wp_iret dX10_piles_34 rfl (⟨vi (by unfold qPiles; rw [if_neg (by omega)]), a, sameM_rf h⟩)
  · refine wp_aload_n dX10_piles_11 rfl ?_
    refine wp_getC dX10_piles_12 flX10_78 rfl rfl ?_
    refine wp_aload_n dX10_piles_15 rfl ?_
    refine wp_getM dX10_piles_16 flX10_46 rfl rfl ?_
    refine wp_aload_n dX10_piles_19 rfl ?_
    refine wp_getM dX10_piles_20 flX10_46 rfl rfl ?_
    refine wp_iload_n dX10_piles_23 rfl ?_
    refine wp_callVp dX10_piles_24 mlX10_182 mvX3_gapAt (S_X3_gapAt g (by assumption) (by omega) (by omega)) rfl rfl (by decide) (by decide) (gs0 hG) rfl rfl (Nat.le_of_ble_eq_true rfl) ?_
    rw [a.gap o (by omega)]
    refine wp_callV dX10_piles_27 mlX10_250 mvX1_rows (S_X1_rows a o (by omega) (by omega)) rfl rfl (by decide) (by decide) rfl rfl rfl (Nat.le_of_ble_eq_true rfl) ?_
    rintro rv h1 ⟨rfl, a, s1⟩
    refine wp_goto 34 dX10_piles_30 (by decide) ?_
    exact wp_iret dX10_piles_34 rfl (⟨vi (by unfold qPiles; rw [if_pos (by omega)]), a, s1⟩)

def spF (c : Int) : Nat → Int → Int → Int
  | 0, p, v => if p = 0 ∨ v ≠ 0 then 0 else p
  | k + 1, p, v => if p = 0 ∨ ((k + 1 : Nat) : Int) / 2 < v ∨ ((k + 1 : Nat) : Int) - ((k + 1 : Nat) : Int) / 2 < -v then 0 else spF c k (p * c / 100) (if ((k + 1 : Nat) : Int) % 2 = 0 then v - 1 else v + 1) + spF c k (p - p * c / 100) v
theorem pc_b {p c : Int} (hp : 0 ≤ p) (hc : 0 ≤ c ∧ c ≤ 100) : 0 ≤ p * c / 100 ∧ p * c / 100 ≤ p ∧ 0 ≤ p * c ∧ p * c ≤ p * 100 := by
  have h1 : 0 ≤ p * c := Int.mul_nonneg hp hc.1
  have h2 : p * c ≤ p * 100 := Int.mul_le_mul_of_nonneg_left hc.2 hp
  omega
theorem spF_b {c : Int} (hc : 0 ≤ c ∧ c ≤ 100) : ∀ (k : Nat) (p v : Int), 0 ≤ p → 0 ≤ spF c k p v ∧ spF c k p v ≤ p
  | 0, p, v, hp => by unfold spF; split <;> omega
  | k + 1, p, v, hp => by
    unfold spF
    split
    · omega
    · have b := pc_b hp hc
      have h1 := spF_b hc k (p * c / 100) (if ((k + 1 : Nat) : Int) % 2 = 0 then v - 1 else v + 1) (by omega)
      have h2 := spF_b hc k (p - p * c / 100) v (by omega)
      omega
def qLikely (σ : Sg) (p n c : Int) : Int := if (0 ≤ p ∧ p < gP (sG σ)) ∧ (0 ≤ n ∧ n ≤ 3) ∧ 0 ≤ c ∧ c ≤ 100 then spF c (4 * n).toNat 1000000000 (gapF (sG σ) p) else -1

set_option maxRecDepth 20000 in
theorem S_X10_standingParts {X : Cx} {h : Hp} {c : Int} (hc : 0 ≤ c ∧ c ≤ 100) : ∀ (k : Nat) (p v : Int), 0 ≤ p ∧ p ≤ 1000000000 → k ≤ 100 → -2000 - (100 - (k : Int)) ≤ v ∧ v ≤ 2000 + (100 - (k : Int)) → Spec X mX10_standingParts k [.long (lI p), .int (iI v), .int (iI ((k : Nat) : Int)), .int (iI c)] h (fun rv h' => rv = some (.long (lI (spF c k p v))) ∧ h' = h) := by
  intro k
  induction k with
  | zero =>
    intro p v hp hk hv
    refine spec_wp (Nat.le_of_ble_eq_true rfl) (by decide +kernel) ?_
    refine wp_loc [(0, .long (lI p)), (2, .int (iI v)), (3, .int (iI ((0 : Nat) : Int))), (4, .int (iI c))] ⟨rfl, rfl, rfl, rfl, trivial⟩ ?_
    refine wp_iload_n dX10_standingParts_0 rfl ?_
    refine wp_iload_n dX10_standingParts_1 rfl ?_
    refine wp_iconst dX10_standingParts_2 ?_
    refine wp_idivp dX10_standingParts_3 (by omega) (by omega) (by unfold InR; omega) (by unfold InR; omega) ?_
    refine wp_icmpgt 17 dX10_standingParts_4 (by decide) (by unfold InR; omega) (by unfold InR; omega) (fun c4 => ?_) (fun c4 => ?_)
    · refine wp_iconst dX10_standingParts_17 ?_
      refine wp_goto 22 dX10_standingParts_18 (by decide) ?_
      refine wp_istore dX10_standingParts_22 (by decide) ?_
      refine wp_lload_n dX10_standingParts_24 rfl ?_
      refine wp_lconst (v := 0) dX10_standingParts_25 rfl ?_
      rw [show (0 : Int64) = lI 0 from rfl]
      refine wp_lcmp dX10_standingParts_26 ?_
      have lz := lcm_eq (a := p) (b := 0) ⟨by omega, by omega⟩ ⟨by omega, by omega⟩
      refine wp_ifeq 39 dX10_standingParts_27 (by decide) (lcm_R _ _) (fun c27 => ?_) (fun c27 => ?_)
      · refine wp_lconst (v := 0) dX10_standingParts_39 rfl ?_
        exact wp_lret dX10_standingParts_40 rfl (⟨vl (by first | (exfalso; omega) | (rw [spF, if_pos (by omega)]; rfl)), rfl⟩)
      · refine wp_iload_n dX10_standingParts_30 rfl ?_
        refine wp_iflt 39 dX10_standingParts_31 (by decide) (by unfold InR; omega) (fun c31 => ?_) (fun c31 => ?_)
        · exact absurd c31 (by omega)
        · refine wp_iload dX10_standingParts_34 rfl ?_
          refine wp_ifeq 41 dX10_standingParts_36 (by decide) (by unfold InR; omega) (fun c36 => ?_) (fun c36 => ?_)
          · refine wp_iload_n dX10_standingParts_41 rfl ?_
            refine wp_ifne 47 dX10_standingParts_42 (by decide) (by unfold InR; omega) (fun c42 => ?_) (fun c42 => ?_)
            · exact absurd c42 (by omega)
            · refine wp_lload_n dX10_standingParts_45 rfl ?_
              exact wp_lret dX10_standingParts_46 rfl (⟨vl (by first | (exfalso; omega) | (rw [spF, if_neg (by omega)])), rfl⟩)
          · refine wp_lconst (v := 0) dX10_standingParts_39 rfl ?_
            exact wp_lret dX10_standingParts_40 rfl (⟨vl (by first | (exfalso; omega) | (rw [spF, if_pos (by omega)]; rfl)), rfl⟩)
    · refine wp_iload_n dX10_standingParts_7 rfl ?_
      refine wp_ineg dX10_standingParts_8 ?_
      refine wp_iload_n dX10_standingParts_9 rfl ?_
      refine wp_iload_n dX10_standingParts_10 rfl ?_
      refine wp_iconst dX10_standingParts_11 ?_
      refine wp_idivp dX10_standingParts_12 (by omega) (by omega) (by unfold InR; omega) (by unfold InR; omega) ?_
      refine wp_isub dX10_standingParts_13 ?_
      refine wp_icmple 21 dX10_standingParts_14 (by decide) (by unfold InR; omega) (by unfold InR; omega) (fun c14 => ?_) (fun c14 => ?_)
      · refine wp_iconst dX10_standingParts_21 ?_
        refine wp_istore dX10_standingParts_22 (by decide) ?_
        refine wp_lload_n dX10_standingParts_24 rfl ?_
        refine wp_lconst (v := 0) dX10_standingParts_25 rfl ?_
        rw [show (0 : Int64) = lI 0 from rfl]
        refine wp_lcmp dX10_standingParts_26 ?_
        have lz := lcm_eq (a := p) (b := 0) ⟨by omega, by omega⟩ ⟨by omega, by omega⟩
        refine wp_ifeq 39 dX10_standingParts_27 (by decide) (lcm_R _ _) (fun c27 => ?_) (fun c27 => ?_)
        · refine wp_lconst (v := 0) dX10_standingParts_39 rfl ?_
          exact wp_lret dX10_standingParts_40 rfl (⟨vl (by first | (exfalso; omega) | (rw [spF, if_pos (by omega)]; rfl)), rfl⟩)
        · refine wp_iload_n dX10_standingParts_30 rfl ?_
          refine wp_iflt 39 dX10_standingParts_31 (by decide) (by unfold InR; omega) (fun c31 => ?_) (fun c31 => ?_)
          · exact absurd c31 (by omega)
          · refine wp_iload dX10_standingParts_34 rfl ?_
            refine wp_ifeq 41 dX10_standingParts_36 (by decide) (by unfold InR; omega) (fun c36 => ?_) (fun c36 => ?_)
            · refine wp_iload_n dX10_standingParts_41 rfl ?_
              refine wp_ifne 47 dX10_standingParts_42 (by decide) (by unfold InR; omega) (fun c42 => ?_) (fun c42 => ?_)
              · exact absurd c42 (by omega)
              · refine wp_lload_n dX10_standingParts_45 rfl ?_
                exact wp_lret dX10_standingParts_46 rfl (⟨vl (by first | (exfalso; omega) | (rw [spF, if_neg (by omega)])), rfl⟩)
            · refine wp_lconst (v := 0) dX10_standingParts_39 rfl ?_
              exact wp_lret dX10_standingParts_40 rfl (⟨vl (by first | (exfalso; omega) | (rw [spF, if_pos (by omega)]; rfl)), rfl⟩)
      · refine wp_iconst dX10_standingParts_17 ?_
        refine wp_goto 22 dX10_standingParts_18 (by decide) ?_
        refine wp_istore dX10_standingParts_22 (by decide) ?_
        refine wp_lload_n dX10_standingParts_24 rfl ?_
        refine wp_lconst (v := 0) dX10_standingParts_25 rfl ?_
        rw [show (0 : Int64) = lI 0 from rfl]
        refine wp_lcmp dX10_standingParts_26 ?_
        have lz := lcm_eq (a := p) (b := 0) ⟨by omega, by omega⟩ ⟨by omega, by omega⟩
        refine wp_ifeq 39 dX10_standingParts_27 (by decide) (lcm_R _ _) (fun c27 => ?_) (fun c27 => ?_)
        · refine wp_lconst (v := 0) dX10_standingParts_39 rfl ?_
          exact wp_lret dX10_standingParts_40 rfl (⟨vl (by first | (exfalso; omega) | (rw [spF, if_pos (by omega)]; rfl)), rfl⟩)
        · refine wp_iload_n dX10_standingParts_30 rfl ?_
          refine wp_iflt 39 dX10_standingParts_31 (by decide) (by unfold InR; omega) (fun c31 => ?_) (fun c31 => ?_)
          · exact absurd c31 (by omega)
          · refine wp_iload dX10_standingParts_34 rfl ?_
            refine wp_ifeq 41 dX10_standingParts_36 (by decide) (by unfold InR; omega) (fun c36 => ?_) (fun c36 => ?_)
            · refine wp_iload_n dX10_standingParts_41 rfl ?_
              refine wp_ifne 47 dX10_standingParts_42 (by decide) (by unfold InR; omega) (fun c42 => ?_) (fun c42 => ?_)
              · exact absurd c42 (by omega)
              · refine wp_lload_n dX10_standingParts_45 rfl ?_
                exact wp_lret dX10_standingParts_46 rfl (⟨vl (by first | (exfalso; omega) | (rw [spF, if_neg (by omega)])), rfl⟩)
            · refine wp_lconst (v := 0) dX10_standingParts_39 rfl ?_
              exact wp_lret dX10_standingParts_40 rfl (⟨vl (by first | (exfalso; omega) | (rw [spF, if_pos (by omega)]; rfl)), rfl⟩)
  | succ k ih =>
    intro p v hp hk hv
    refine spec_wp (Nat.le_of_ble_eq_true rfl) (by decide +kernel) ?_
    refine wp_loc [(0, .long (lI p)), (2, .int (iI v)), (3, .int (iI ((k + 1 : Nat) : Int))), (4, .int (iI c))] ⟨rfl, rfl, rfl, rfl, trivial⟩ ?_
    refine wp_iload_n dX10_standingParts_0 rfl ?_
    refine wp_iload_n dX10_standingParts_1 rfl ?_
    refine wp_iconst dX10_standingParts_2 ?_
    refine wp_idivp dX10_standingParts_3 (by omega) (by omega) (by unfold InR; omega) (by unfold InR; omega) ?_
    refine wp_icmpgt 17 dX10_standingParts_4 (by decide) (by unfold InR; omega) (by unfold InR; omega) (fun c4 => ?_) (fun c4 => ?_)
    · refine wp_iconst dX10_standingParts_17 ?_
      refine wp_goto 22 dX10_standingParts_18 (by decide) ?_
      refine wp_istore dX10_standingParts_22 (by decide) ?_
      refine wp_lload_n dX10_standingParts_24 rfl ?_
      refine wp_lconst (v := 0) dX10_standingParts_25 rfl ?_
      rw [show (0 : Int64) = lI 0 from rfl]
      refine wp_lcmp dX10_standingParts_26 ?_
      have lz := lcm_eq (a := p) (b := 0) ⟨by omega, by omega⟩ ⟨by omega, by omega⟩
      refine wp_ifeq 39 dX10_standingParts_27 (by decide) (lcm_R _ _) (fun c27 => ?_) (fun c27 => ?_)
      · refine wp_lconst (v := 0) dX10_standingParts_39 rfl ?_
        exact wp_lret dX10_standingParts_40 rfl (⟨vl (by first | (exfalso; omega) | (rw [spF, if_pos (by omega)]; rfl)), rfl⟩)
      · refine wp_iload_n dX10_standingParts_30 rfl ?_
        refine wp_iflt 39 dX10_standingParts_31 (by decide) (by unfold InR; omega) (fun c31 => ?_) (fun c31 => ?_)
        · exact absurd c31 (by omega)
        · refine wp_iload dX10_standingParts_34 rfl ?_
          refine wp_ifeq 41 dX10_standingParts_36 (by decide) (by unfold InR; omega) (fun c36 => ?_) (fun c36 => ?_)
          · refine wp_iload_n dX10_standingParts_41 rfl ?_
            refine wp_ifne 47 dX10_standingParts_42 (by decide) (by unfold InR; omega) (fun c42 => ?_) (fun c42 => ?_)
            · refine wp_lload_n dX10_standingParts_47 rfl ?_
              refine wp_iload dX10_standingParts_48 rfl ?_
              refine wp_i2l dX10_standingParts_50 ?_
              rw [i2l_I (show InR c by unfold InR; omega)]
              refine wp_lmul dX10_standingParts_51 ?_
              rw [lI_mul]
              refine wp_ldc2 (v := 100) dX10_standingParts_52 klX10_332 ?_
              rw [show (100 : Int64) = lI 100 from rfl]
              have pb := pc_b (p := p) (c := c) (by omega) (by omega)
              refine wp_ldiv dX10_standingParts_55 (fun q => absurd q (by decide)) ?_
              rw [lI_div ⟨by omega, by omega⟩ ⟨by omega, by omega⟩ (by rw [Int.tdiv_eq_ediv_of_nonneg (by omega)]; exact ⟨by omega, by omega⟩), Int.tdiv_eq_ediv_of_nonneg (by omega)]
              obtain ⟨s, hsd⟩ : ∃ s : Int, s = p * c / 100 := ⟨_, rfl⟩
              rw [← hsd] at pb ⊢
              refine wp_lstore dX10_standingParts_56 (by decide) ?_
              refine wp_iload_n dX10_standingParts_58 rfl ?_
              refine wp_iconst dX10_standingParts_59 ?_
              refine wp_iremp dX10_standingParts_60 (by omega) (by omega) (by unfold InR; omega) (by unfold InR; omega) ?_
              refine wp_ifne 70 dX10_standingParts_61 (by decide) (by unfold InR; omega) (fun c61 => ?_) (fun c61 => ?_)
              · refine wp_iload_n dX10_standingParts_70 rfl ?_
                refine wp_iconst dX10_standingParts_71 ?_
                refine wp_iadd dX10_standingParts_72 ?_
                refine wp_istore dX10_standingParts_73 (by decide) ?_
                refine wp_lload dX10_standingParts_75 rfl ?_
                refine wp_iload dX10_standingParts_77 rfl ?_
                refine wp_iload_n dX10_standingParts_79 rfl ?_
                refine wp_iconst dX10_standingParts_80 ?_
                refine wp_isub dX10_standingParts_81 ?_
                refine wp_iload dX10_standingParts_82 rfl ?_
                rw [show (((k + 1 : Nat) : Int)) - 1 = ((k : Nat) : Int) by omega]
                obtain ⟨w, hwd⟩ : ∃ w : Int, w = if ((k + 1 : Nat) : Int) % 2 = 0 then v - 1 else v + 1 := ⟨_, rfl⟩
                first
                  | rw [show v - 1 = w by rw [hwd, if_pos (by omega)]]
                  | rw [show v + 1 = w by rw [hwd, if_neg (by omega)]]
                have wbd : -2000 - (k : Int) ≤ w ∧ w ≤ 2000 + (k : Int) := by rw [hwd]; split <;> omega
                refine wp_callSp dX10_standingParts_84 mlX10_328 msX10_standingParts (ih s w (by omega) (by omega) (by omega)) rfl rfl (by omega) (by decide) (Nat.le_of_ble_eq_true rfl) ?_
                refine wp_lload_n dX10_standingParts_87 rfl ?_
                refine wp_lload dX10_standingParts_88 rfl ?_
                refine wp_lsub dX10_standingParts_90 ?_
                rw [lI_sub]
                refine wp_iload_n dX10_standingParts_91 rfl ?_
                refine wp_iload_n dX10_standingParts_92 rfl ?_
                refine wp_iconst dX10_standingParts_93 ?_
                refine wp_isub dX10_standingParts_94 ?_
                refine wp_iload dX10_standingParts_95 rfl ?_
                rw [show (((k + 1 : Nat) : Int)) - 1 = ((k : Nat) : Int) by omega]
                refine wp_callSp dX10_standingParts_97 mlX10_328 msX10_standingParts (ih (p - s) v (by omega) (by omega) (by omega)) rfl rfl (by omega) (by decide) (Nat.le_of_ble_eq_true rfl) ?_
                refine wp_ladd dX10_standingParts_100 ?_
                rw [lI_add]
                exact wp_lret dX10_standingParts_101 rfl (⟨vl (by first | (exfalso; omega) | (rw [spF, if_neg (by omega), hsd, hwd])), rfl⟩)
              · refine wp_iload_n dX10_standingParts_64 rfl ?_
                refine wp_iconst dX10_standingParts_65 ?_
                refine wp_isub dX10_standingParts_66 ?_
                refine wp_goto 73 dX10_standingParts_67 (by decide) ?_
                refine wp_istore dX10_standingParts_73 (by decide) ?_
                refine wp_lload dX10_standingParts_75 rfl ?_
                refine wp_iload dX10_standingParts_77 rfl ?_
                refine wp_iload_n dX10_standingParts_79 rfl ?_
                refine wp_iconst dX10_standingParts_80 ?_
                refine wp_isub dX10_standingParts_81 ?_
                refine wp_iload dX10_standingParts_82 rfl ?_
                rw [show (((k + 1 : Nat) : Int)) - 1 = ((k : Nat) : Int) by omega]
                obtain ⟨w, hwd⟩ : ∃ w : Int, w = if ((k + 1 : Nat) : Int) % 2 = 0 then v - 1 else v + 1 := ⟨_, rfl⟩
                first
                  | rw [show v - 1 = w by rw [hwd, if_pos (by omega)]]
                  | rw [show v + 1 = w by rw [hwd, if_neg (by omega)]]
                have wbd : -2000 - (k : Int) ≤ w ∧ w ≤ 2000 + (k : Int) := by rw [hwd]; split <;> omega
                refine wp_callSp dX10_standingParts_84 mlX10_328 msX10_standingParts (ih s w (by omega) (by omega) (by omega)) rfl rfl (by omega) (by decide) (Nat.le_of_ble_eq_true rfl) ?_
                refine wp_lload_n dX10_standingParts_87 rfl ?_
                refine wp_lload dX10_standingParts_88 rfl ?_
                refine wp_lsub dX10_standingParts_90 ?_
                rw [lI_sub]
                refine wp_iload_n dX10_standingParts_91 rfl ?_
                refine wp_iload_n dX10_standingParts_92 rfl ?_
                refine wp_iconst dX10_standingParts_93 ?_
                refine wp_isub dX10_standingParts_94 ?_
                refine wp_iload dX10_standingParts_95 rfl ?_
                rw [show (((k + 1 : Nat) : Int)) - 1 = ((k : Nat) : Int) by omega]
                refine wp_callSp dX10_standingParts_97 mlX10_328 msX10_standingParts (ih (p - s) v (by omega) (by omega) (by omega)) rfl rfl (by omega) (by decide) (Nat.le_of_ble_eq_true rfl) ?_
                refine wp_ladd dX10_standingParts_100 ?_
                rw [lI_add]
                exact wp_lret dX10_standingParts_101 rfl (⟨vl (by first | (exfalso; omega) | (rw [spF, if_neg (by omega), hsd, hwd])), rfl⟩)
            · exact absurd c42 (by omega)
          · refine wp_lconst (v := 0) dX10_standingParts_39 rfl ?_
            exact wp_lret dX10_standingParts_40 rfl (⟨vl (by first | (exfalso; omega) | (rw [spF, if_pos (by omega)]; rfl)), rfl⟩)
    · refine wp_iload_n dX10_standingParts_7 rfl ?_
      refine wp_ineg dX10_standingParts_8 ?_
      refine wp_iload_n dX10_standingParts_9 rfl ?_
      refine wp_iload_n dX10_standingParts_10 rfl ?_
      refine wp_iconst dX10_standingParts_11 ?_
      refine wp_idivp dX10_standingParts_12 (by omega) (by omega) (by unfold InR; omega) (by unfold InR; omega) ?_
      refine wp_isub dX10_standingParts_13 ?_
      refine wp_icmple 21 dX10_standingParts_14 (by decide) (by unfold InR; omega) (by unfold InR; omega) (fun c14 => ?_) (fun c14 => ?_)
      · refine wp_iconst dX10_standingParts_21 ?_
        refine wp_istore dX10_standingParts_22 (by decide) ?_
        refine wp_lload_n dX10_standingParts_24 rfl ?_
        refine wp_lconst (v := 0) dX10_standingParts_25 rfl ?_
        rw [show (0 : Int64) = lI 0 from rfl]
        refine wp_lcmp dX10_standingParts_26 ?_
        have lz := lcm_eq (a := p) (b := 0) ⟨by omega, by omega⟩ ⟨by omega, by omega⟩
        refine wp_ifeq 39 dX10_standingParts_27 (by decide) (lcm_R _ _) (fun c27 => ?_) (fun c27 => ?_)
        · refine wp_lconst (v := 0) dX10_standingParts_39 rfl ?_
          exact wp_lret dX10_standingParts_40 rfl (⟨vl (by first | (exfalso; omega) | (rw [spF, if_pos (by omega)]; rfl)), rfl⟩)
        · refine wp_iload_n dX10_standingParts_30 rfl ?_
          refine wp_iflt 39 dX10_standingParts_31 (by decide) (by unfold InR; omega) (fun c31 => ?_) (fun c31 => ?_)
          · exact absurd c31 (by omega)
          · refine wp_iload dX10_standingParts_34 rfl ?_
            refine wp_ifeq 41 dX10_standingParts_36 (by decide) (by unfold InR; omega) (fun c36 => ?_) (fun c36 => ?_)
            · refine wp_iload_n dX10_standingParts_41 rfl ?_
              refine wp_ifne 47 dX10_standingParts_42 (by decide) (by unfold InR; omega) (fun c42 => ?_) (fun c42 => ?_)
              · refine wp_lload_n dX10_standingParts_47 rfl ?_
                refine wp_iload dX10_standingParts_48 rfl ?_
                refine wp_i2l dX10_standingParts_50 ?_
                rw [i2l_I (show InR c by unfold InR; omega)]
                refine wp_lmul dX10_standingParts_51 ?_
                rw [lI_mul]
                refine wp_ldc2 (v := 100) dX10_standingParts_52 klX10_332 ?_
                rw [show (100 : Int64) = lI 100 from rfl]
                have pb := pc_b (p := p) (c := c) (by omega) (by omega)
                refine wp_ldiv dX10_standingParts_55 (fun q => absurd q (by decide)) ?_
                rw [lI_div ⟨by omega, by omega⟩ ⟨by omega, by omega⟩ (by rw [Int.tdiv_eq_ediv_of_nonneg (by omega)]; exact ⟨by omega, by omega⟩), Int.tdiv_eq_ediv_of_nonneg (by omega)]
                obtain ⟨s, hsd⟩ : ∃ s : Int, s = p * c / 100 := ⟨_, rfl⟩
                rw [← hsd] at pb ⊢
                refine wp_lstore dX10_standingParts_56 (by decide) ?_
                refine wp_iload_n dX10_standingParts_58 rfl ?_
                refine wp_iconst dX10_standingParts_59 ?_
                refine wp_iremp dX10_standingParts_60 (by omega) (by omega) (by unfold InR; omega) (by unfold InR; omega) ?_
                refine wp_ifne 70 dX10_standingParts_61 (by decide) (by unfold InR; omega) (fun c61 => ?_) (fun c61 => ?_)
                · refine wp_iload_n dX10_standingParts_70 rfl ?_
                  refine wp_iconst dX10_standingParts_71 ?_
                  refine wp_iadd dX10_standingParts_72 ?_
                  refine wp_istore dX10_standingParts_73 (by decide) ?_
                  refine wp_lload dX10_standingParts_75 rfl ?_
                  refine wp_iload dX10_standingParts_77 rfl ?_
                  refine wp_iload_n dX10_standingParts_79 rfl ?_
                  refine wp_iconst dX10_standingParts_80 ?_
                  refine wp_isub dX10_standingParts_81 ?_
                  refine wp_iload dX10_standingParts_82 rfl ?_
                  rw [show (((k + 1 : Nat) : Int)) - 1 = ((k : Nat) : Int) by omega]
                  obtain ⟨w, hwd⟩ : ∃ w : Int, w = if ((k + 1 : Nat) : Int) % 2 = 0 then v - 1 else v + 1 := ⟨_, rfl⟩
                  first
                    | rw [show v - 1 = w by rw [hwd, if_pos (by omega)]]
                    | rw [show v + 1 = w by rw [hwd, if_neg (by omega)]]
                  have wbd : -2000 - (k : Int) ≤ w ∧ w ≤ 2000 + (k : Int) := by rw [hwd]; split <;> omega
                  refine wp_callSp dX10_standingParts_84 mlX10_328 msX10_standingParts (ih s w (by omega) (by omega) (by omega)) rfl rfl (by omega) (by decide) (Nat.le_of_ble_eq_true rfl) ?_
                  refine wp_lload_n dX10_standingParts_87 rfl ?_
                  refine wp_lload dX10_standingParts_88 rfl ?_
                  refine wp_lsub dX10_standingParts_90 ?_
                  rw [lI_sub]
                  refine wp_iload_n dX10_standingParts_91 rfl ?_
                  refine wp_iload_n dX10_standingParts_92 rfl ?_
                  refine wp_iconst dX10_standingParts_93 ?_
                  refine wp_isub dX10_standingParts_94 ?_
                  refine wp_iload dX10_standingParts_95 rfl ?_
                  rw [show (((k + 1 : Nat) : Int)) - 1 = ((k : Nat) : Int) by omega]
                  refine wp_callSp dX10_standingParts_97 mlX10_328 msX10_standingParts (ih (p - s) v (by omega) (by omega) (by omega)) rfl rfl (by omega) (by decide) (Nat.le_of_ble_eq_true rfl) ?_
                  refine wp_ladd dX10_standingParts_100 ?_
                  rw [lI_add]
                  exact wp_lret dX10_standingParts_101 rfl (⟨vl (by first | (exfalso; omega) | (rw [spF, if_neg (by omega), hsd, hwd])), rfl⟩)
                · refine wp_iload_n dX10_standingParts_64 rfl ?_
                  refine wp_iconst dX10_standingParts_65 ?_
                  refine wp_isub dX10_standingParts_66 ?_
                  refine wp_goto 73 dX10_standingParts_67 (by decide) ?_
                  refine wp_istore dX10_standingParts_73 (by decide) ?_
                  refine wp_lload dX10_standingParts_75 rfl ?_
                  refine wp_iload dX10_standingParts_77 rfl ?_
                  refine wp_iload_n dX10_standingParts_79 rfl ?_
                  refine wp_iconst dX10_standingParts_80 ?_
                  refine wp_isub dX10_standingParts_81 ?_
                  refine wp_iload dX10_standingParts_82 rfl ?_
                  rw [show (((k + 1 : Nat) : Int)) - 1 = ((k : Nat) : Int) by omega]
                  obtain ⟨w, hwd⟩ : ∃ w : Int, w = if ((k + 1 : Nat) : Int) % 2 = 0 then v - 1 else v + 1 := ⟨_, rfl⟩
                  first
                    | rw [show v - 1 = w by rw [hwd, if_pos (by omega)]]
                    | rw [show v + 1 = w by rw [hwd, if_neg (by omega)]]
                  have wbd : -2000 - (k : Int) ≤ w ∧ w ≤ 2000 + (k : Int) := by rw [hwd]; split <;> omega
                  refine wp_callSp dX10_standingParts_84 mlX10_328 msX10_standingParts (ih s w (by omega) (by omega) (by omega)) rfl rfl (by omega) (by decide) (Nat.le_of_ble_eq_true rfl) ?_
                  refine wp_lload_n dX10_standingParts_87 rfl ?_
                  refine wp_lload dX10_standingParts_88 rfl ?_
                  refine wp_lsub dX10_standingParts_90 ?_
                  rw [lI_sub]
                  refine wp_iload_n dX10_standingParts_91 rfl ?_
                  refine wp_iload_n dX10_standingParts_92 rfl ?_
                  refine wp_iconst dX10_standingParts_93 ?_
                  refine wp_isub dX10_standingParts_94 ?_
                  refine wp_iload dX10_standingParts_95 rfl ?_
                  rw [show (((k + 1 : Nat) : Int)) - 1 = ((k : Nat) : Int) by omega]
                  refine wp_callSp dX10_standingParts_97 mlX10_328 msX10_standingParts (ih (p - s) v (by omega) (by omega) (by omega)) rfl rfl (by omega) (by decide) (Nat.le_of_ble_eq_true rfl) ?_
                  refine wp_ladd dX10_standingParts_100 ?_
                  rw [lI_add]
                  exact wp_lret dX10_standingParts_101 rfl (⟨vl (by first | (exfalso; omega) | (rw [spF, if_neg (by omega), hsd, hwd])), rfl⟩)
              · exact absurd c42 (by omega)
            · refine wp_lconst (v := 0) dX10_standingParts_39 rfl ?_
              exact wp_lret dX10_standingParts_40 rfl (⟨vl (by first | (exfalso; omega) | (rw [spF, if_pos (by omega)]; rfl)), rfl⟩)
      · refine wp_iconst dX10_standingParts_17 ?_
        refine wp_goto 22 dX10_standingParts_18 (by decide) ?_
        refine wp_istore dX10_standingParts_22 (by decide) ?_
        refine wp_lload_n dX10_standingParts_24 rfl ?_
        refine wp_lconst (v := 0) dX10_standingParts_25 rfl ?_
        rw [show (0 : Int64) = lI 0 from rfl]
        refine wp_lcmp dX10_standingParts_26 ?_
        have lz := lcm_eq (a := p) (b := 0) ⟨by omega, by omega⟩ ⟨by omega, by omega⟩
        refine wp_ifeq 39 dX10_standingParts_27 (by decide) (lcm_R _ _) (fun c27 => ?_) (fun c27 => ?_)
        · refine wp_lconst (v := 0) dX10_standingParts_39 rfl ?_
          exact wp_lret dX10_standingParts_40 rfl (⟨vl (by first | (exfalso; omega) | (rw [spF, if_pos (by omega)]; rfl)), rfl⟩)
        · refine wp_iload_n dX10_standingParts_30 rfl ?_
          refine wp_iflt 39 dX10_standingParts_31 (by decide) (by unfold InR; omega) (fun c31 => ?_) (fun c31 => ?_)
          · exact absurd c31 (by omega)
          · refine wp_iload dX10_standingParts_34 rfl ?_
            refine wp_ifeq 41 dX10_standingParts_36 (by decide) (by unfold InR; omega) (fun c36 => ?_) (fun c36 => ?_)
            · refine wp_iload_n dX10_standingParts_41 rfl ?_
              refine wp_ifne 47 dX10_standingParts_42 (by decide) (by unfold InR; omega) (fun c42 => ?_) (fun c42 => ?_)
              · refine wp_lload_n dX10_standingParts_47 rfl ?_
                refine wp_iload dX10_standingParts_48 rfl ?_
                refine wp_i2l dX10_standingParts_50 ?_
                rw [i2l_I (show InR c by unfold InR; omega)]
                refine wp_lmul dX10_standingParts_51 ?_
                rw [lI_mul]
                refine wp_ldc2 (v := 100) dX10_standingParts_52 klX10_332 ?_
                rw [show (100 : Int64) = lI 100 from rfl]
                have pb := pc_b (p := p) (c := c) (by omega) (by omega)
                refine wp_ldiv dX10_standingParts_55 (fun q => absurd q (by decide)) ?_
                rw [lI_div ⟨by omega, by omega⟩ ⟨by omega, by omega⟩ (by rw [Int.tdiv_eq_ediv_of_nonneg (by omega)]; exact ⟨by omega, by omega⟩), Int.tdiv_eq_ediv_of_nonneg (by omega)]
                obtain ⟨s, hsd⟩ : ∃ s : Int, s = p * c / 100 := ⟨_, rfl⟩
                rw [← hsd] at pb ⊢
                refine wp_lstore dX10_standingParts_56 (by decide) ?_
                refine wp_iload_n dX10_standingParts_58 rfl ?_
                refine wp_iconst dX10_standingParts_59 ?_
                refine wp_iremp dX10_standingParts_60 (by omega) (by omega) (by unfold InR; omega) (by unfold InR; omega) ?_
                refine wp_ifne 70 dX10_standingParts_61 (by decide) (by unfold InR; omega) (fun c61 => ?_) (fun c61 => ?_)
                · refine wp_iload_n dX10_standingParts_70 rfl ?_
                  refine wp_iconst dX10_standingParts_71 ?_
                  refine wp_iadd dX10_standingParts_72 ?_
                  refine wp_istore dX10_standingParts_73 (by decide) ?_
                  refine wp_lload dX10_standingParts_75 rfl ?_
                  refine wp_iload dX10_standingParts_77 rfl ?_
                  refine wp_iload_n dX10_standingParts_79 rfl ?_
                  refine wp_iconst dX10_standingParts_80 ?_
                  refine wp_isub dX10_standingParts_81 ?_
                  refine wp_iload dX10_standingParts_82 rfl ?_
                  rw [show (((k + 1 : Nat) : Int)) - 1 = ((k : Nat) : Int) by omega]
                  obtain ⟨w, hwd⟩ : ∃ w : Int, w = if ((k + 1 : Nat) : Int) % 2 = 0 then v - 1 else v + 1 := ⟨_, rfl⟩
                  first
                    | rw [show v - 1 = w by rw [hwd, if_pos (by omega)]]
                    | rw [show v + 1 = w by rw [hwd, if_neg (by omega)]]
                  have wbd : -2000 - (k : Int) ≤ w ∧ w ≤ 2000 + (k : Int) := by rw [hwd]; split <;> omega
                  refine wp_callSp dX10_standingParts_84 mlX10_328 msX10_standingParts (ih s w (by omega) (by omega) (by omega)) rfl rfl (by omega) (by decide) (Nat.le_of_ble_eq_true rfl) ?_
                  refine wp_lload_n dX10_standingParts_87 rfl ?_
                  refine wp_lload dX10_standingParts_88 rfl ?_
                  refine wp_lsub dX10_standingParts_90 ?_
                  rw [lI_sub]
                  refine wp_iload_n dX10_standingParts_91 rfl ?_
                  refine wp_iload_n dX10_standingParts_92 rfl ?_
                  refine wp_iconst dX10_standingParts_93 ?_
                  refine wp_isub dX10_standingParts_94 ?_
                  refine wp_iload dX10_standingParts_95 rfl ?_
                  rw [show (((k + 1 : Nat) : Int)) - 1 = ((k : Nat) : Int) by omega]
                  refine wp_callSp dX10_standingParts_97 mlX10_328 msX10_standingParts (ih (p - s) v (by omega) (by omega) (by omega)) rfl rfl (by omega) (by decide) (Nat.le_of_ble_eq_true rfl) ?_
                  refine wp_ladd dX10_standingParts_100 ?_
                  rw [lI_add]
                  exact wp_lret dX10_standingParts_101 rfl (⟨vl (by first | (exfalso; omega) | (rw [spF, if_neg (by omega), hsd, hwd])), rfl⟩)
                · refine wp_iload_n dX10_standingParts_64 rfl ?_
                  refine wp_iconst dX10_standingParts_65 ?_
                  refine wp_isub dX10_standingParts_66 ?_
                  refine wp_goto 73 dX10_standingParts_67 (by decide) ?_
                  refine wp_istore dX10_standingParts_73 (by decide) ?_
                  refine wp_lload dX10_standingParts_75 rfl ?_
                  refine wp_iload dX10_standingParts_77 rfl ?_
                  refine wp_iload_n dX10_standingParts_79 rfl ?_
                  refine wp_iconst dX10_standingParts_80 ?_
                  refine wp_isub dX10_standingParts_81 ?_
                  refine wp_iload dX10_standingParts_82 rfl ?_
                  rw [show (((k + 1 : Nat) : Int)) - 1 = ((k : Nat) : Int) by omega]
                  obtain ⟨w, hwd⟩ : ∃ w : Int, w = if ((k + 1 : Nat) : Int) % 2 = 0 then v - 1 else v + 1 := ⟨_, rfl⟩
                  first
                    | rw [show v - 1 = w by rw [hwd, if_pos (by omega)]]
                    | rw [show v + 1 = w by rw [hwd, if_neg (by omega)]]
                  have wbd : -2000 - (k : Int) ≤ w ∧ w ≤ 2000 + (k : Int) := by rw [hwd]; split <;> omega
                  refine wp_callSp dX10_standingParts_84 mlX10_328 msX10_standingParts (ih s w (by omega) (by omega) (by omega)) rfl rfl (by omega) (by decide) (Nat.le_of_ble_eq_true rfl) ?_
                  refine wp_lload_n dX10_standingParts_87 rfl ?_
                  refine wp_lload dX10_standingParts_88 rfl ?_
                  refine wp_lsub dX10_standingParts_90 ?_
                  rw [lI_sub]
                  refine wp_iload_n dX10_standingParts_91 rfl ?_
                  refine wp_iload_n dX10_standingParts_92 rfl ?_
                  refine wp_iconst dX10_standingParts_93 ?_
                  refine wp_isub dX10_standingParts_94 ?_
                  refine wp_iload dX10_standingParts_95 rfl ?_
                  rw [show (((k + 1 : Nat) : Int)) - 1 = ((k : Nat) : Int) by omega]
                  refine wp_callSp dX10_standingParts_97 mlX10_328 msX10_standingParts (ih (p - s) v (by omega) (by omega) (by omega)) rfl rfl (by omega) (by decide) (Nat.le_of_ble_eq_true rfl) ?_
                  refine wp_ladd dX10_standingParts_100 ?_
                  rw [lI_add]
                  exact wp_lret dX10_standingParts_101 rfl (⟨vl (by first | (exfalso; omega) | (rw [spF, if_neg (by omega), hsd, hwd])), rfl⟩)
              · exact absurd c42 (by omega)
            · refine wp_lconst (v := 0) dX10_standingParts_39 rfl ?_
              exact wp_lret dX10_standingParts_40 rfl (⟨vl (by first | (exfalso; omega) | (rw [spF, if_pos (by omega)]; rfl)), rfl⟩)

set_option maxRecDepth 20000 in
theorem S_X10_likely {X : Cx} {h : Hp} {σ : Sg} (a : AC h σ) (o : SOK σ) {p n c : Int} (hp : InR p) (hn : InR n) (hc : InR c) : Spec X mX10_likely 30 [.ref (adr X 0), .int (iI p), .int (iI n), .int (iI c)] h (fun rv h' => rv = some (.int (iI (qLikely σ p n c))) ∧ AC h' σ ∧ sameM h h') := by
  have g := a.gb o
  have hG := g.1
  have gk := o.2.2.2.1
  have gb := gk.b
  have gkb := gk.2.1
  have e4 : hI h (hR h 0 6) 4 = gP (sG σ) := a.2.2.2.2.1.1
  have e5 : hI h (hR h 0 6) 5 = gA (sG σ) := a.2.2.2.2.1.2.1
  have e6 : hI h (hR h 0 6) 6 = gK (sG σ) := a.2.2.2.2.1.2.2.1
  have he : hI h (hR h 0 6) 4 % 2 = 0 := by omega
  have vb := gapF_b gk p
  refine spec_wp (Nat.le_of_ble_eq_true rfl) (by decide +kernel) ?_
  refine wp_loc [(0, .ref (adr X 0)), (1, .int (iI p)), (2, .int (iI n)), (3, .int (iI c))] ⟨rfl, rfl, rfl, rfl, trivial⟩ ?_
  refine wp_aload_n dX10_likely_0 rfl ?_
  refine wp_getM dX10_likely_1 flX10_46 rfl rfl ?_
  refine wp_iload_n dX10_likely_4 rfl ?_
  refine wp_callVp dX10_likely_5 mlX10_152 mvX3_has (S_X3_has g (by first | assumption | (unfold InR; omega))) rfl rfl (by decide) (by decide) (gs0 hG) rfl rfl (Nat.le_of_ble_eq_true rfl) ?_
  refine wp_ifeqb 30 dX10_likely_8 (by decide) (fun c8 => ?_) (fun c8 => ?_)
  · refine wp_iconst dX10_likely_30 ?_
    exact wp_iret dX10_likely_31 rfl (⟨vi (by unfold qLikely; rw [if_neg (by omega)]), a, sameM_rf h⟩)
  · refine wp_iload_n dX10_likely_11 rfl ?_
    refine wp_iflt 30 dX10_likely_12 (by decide) (by first | assumption | (unfold InR; omega)) (fun c12 => ?_) (fun c12 => ?_)
    · refine wp_iconst dX10_likely_30 ?_
      exact wp_iret dX10_likely_31 rfl (⟨vi (by unfold qLikely; rw [if_neg (by omega)]), a, sameM_rf h⟩)
    · refine wp_iload_n dX10_likely_15 rfl ?_
      refine wp_iconst dX10_likely_16 ?_
      refine wp_icmpgt 30 dX10_likely_17 (by decide) (by first | assumption | (unfold InR; omega)) (by first | assumption | (unfold InR; omega)) (fun c17 => ?_) (fun c17 => ?_)
      · refine wp_iconst dX10_likely_30 ?_
        exact wp_iret dX10_likely_31 rfl (⟨vi (by unfold qLikely; rw [if_neg (by omega)]), a, sameM_rf h⟩)
      · refine wp_iload_n dX10_likely_20 rfl ?_
        refine wp_iflt 30 dX10_likely_21 (by decide) (by first | assumption | (unfold InR; omega)) (fun c21 => ?_) (fun c21 => ?_)
        · refine wp_iconst dX10_likely_30 ?_
          exact wp_iret dX10_likely_31 rfl (⟨vi (by unfold qLikely; rw [if_neg (by omega)]), a, sameM_rf h⟩)
        · refine wp_iload_n dX10_likely_24 rfl ?_
          refine wp_bipush dX10_likely_25 rfl ?_
          refine wp_icmple 32 dX10_likely_27 (by decide) (by first | assumption | (unfold InR; omega)) (by first | assumption | (unfold InR; omega)) (fun c27 => ?_) (fun c27 => ?_)
          · refine wp_ldc2 (v := 1000000000) dX10_likely_32 klX10_326 ?_
            refine wp_aload_n dX10_likely_35 rfl ?_
            refine wp_getM dX10_likely_36 flX10_46 rfl rfl ?_
            refine wp_iload_n dX10_likely_39 rfl ?_
            refine wp_callVp dX10_likely_40 mlX10_182 mvX3_gapAt (S_X3_gapAt g (by assumption) (by omega) (by omega)) rfl rfl (by decide) (by decide) (gs0 hG) rfl rfl (Nat.le_of_ble_eq_true rfl) ?_
            refine wp_iload_n dX10_likely_43 rfl ?_
            refine wp_iconst dX10_likely_44 ?_
            refine wp_imul dX10_likely_45 ?_
            refine wp_iload_n dX10_likely_46 rfl ?_
            rw [a.gap o (by omega), show (1000000000 : Int64) = lI 1000000000 from rfl, show n * 4 = (((4 * n).toNat : Nat) : Int) by omega]
            have sb := spF_b (c := c) (by omega) (4 * n).toNat 1000000000 (gapF (sG σ) p) (by omega)
            refine wp_callSp dX10_likely_47 mlX10_328 msX10_standingParts (S_X10_standingParts (by omega) (4 * n).toNat 1000000000 (gapF (sG σ) p) (by omega) (by omega) (by omega)) rfl rfl (by omega) (by decide) (Nat.le_of_ble_eq_true rfl) ?_
            refine wp_l2i dX10_likely_50 ?_
            exact wp_iret dX10_likely_51 rfl (⟨vi (by unfold qLikely; rw [if_pos (by omega), l2i_T (by unfold InR; omega)]), a, sameM_rf h⟩)
          · refine wp_iconst dX10_likely_30 ?_
            exact wp_iret dX10_likely_31 rfl (⟨vi (by unfold qLikely; rw [if_neg (by omega)]), a, sameM_rf h⟩)

