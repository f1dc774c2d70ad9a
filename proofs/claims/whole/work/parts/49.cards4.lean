/-! CARDS: wedges, cheap -/
def qWedges (σ : Sg) (p w : Int) : Int := if (0 ≤ p ∧ p < gP (sG σ)) ∧ -1 ≤ w ∧ w < gK (sG σ) then (if (wF (sG σ) (gapF (sG σ) p)).1 = -1 then -1000000 else if w = -1 then (wF (sG σ) (gapF (sG σ) p)).1 else if w = 0 then (wF (sG σ) (gapF (sG σ) p)).2.1 else if w = 1 then (wF (sG σ) (gapF (sG σ) p)).2.2.1 else if w = 2 then (wF (sG σ) (gapF (sG σ) p)).2.2.2.1 else (wF (sG σ) (gapF (sG σ) p)).2.2.2.2) else -1000000
def chF (G : Gdn) (p hv ct : Int) : Nat → Int → Int → Int → Int × Int
  | 0, _, f, l => (f, l)
  | n + 1, q, f, l => if (wF G (gapF G q)).1 ≠ -1 ∧ (f = -1 ∨ hv * min (iabs (q - p)) (gP G - iabs (q - p)) + ct * (wF G (gapF G q)).1 < l) then chF G p hv ct n (q + 1) q (hv * min (iabs (q - p)) (gP G - iabs (q - p)) + ct * (wF G (gapF G q)).1) else chF G p hv ct n (q + 1) f l
def selC (w : Int) (x : Int × Int) : Int := if x.1 = -1 ∨ w = 0 then x.1 else x.2
def qCheap (σ : Sg) (p hv ct w : Int) : Int := if (0 ≤ p ∧ p < gP (sG σ)) ∧ (0 ≤ hv ∧ hv ≤ 99) ∧ (0 ≤ ct ∧ ct ≤ 99) ∧ 0 ≤ w ∧ w ≤ 1 then selC w (chF (sG σ) p hv ct (gP (sG σ)).toNat 0 (-1) 0) else -1
theorem stB_b {T N : Int → Int} {v a b : Int} {st : St5} (h2 : 0 ≤ N 2 ∧ N 2 ≤ 9) (h3 : 0 ≤ N 3 ∧ N 3 ≤ 9) (hab : (-9 ≤ a ∧ a ≤ 9) ∧ -9 ≤ b ∧ b ≤ 9) (h : -1 ≤ st.1 ∧ st.1 ≤ 200) : -1 ≤ (stB T N v a b st).1 ∧ (stB T N v a b st).1 ≤ 200 := by
  have q := tab_b (T := T) h2 h3 (-v - T 0 * a - T 1 * b)
  have ua := iabs_b (n := 9) hab.1
  have ub := iabs_b (n := 9) hab.2
  unfold stB
  (repeat' split) <;> (try dsimp only) <;> omega
theorem wfB_b {T N : Int → Int} {v a : Int} (h2 : 0 ≤ N 2 ∧ N 2 ≤ 9) (h3 : 0 ≤ N 3 ∧ N 3 ≤ 9) (ha : -9 ≤ a ∧ a ≤ 9) : ∀ (n : Nat) (b : Int) (st : St5), -9 ≤ b → b + n ≤ 10 → (-1 ≤ st.1 ∧ st.1 ≤ 200) → -1 ≤ (wfB T N v a n b st).1 ∧ (wfB T N v a n b st).1 ≤ 200
  | 0, b, st, _, _, h => h
  | n + 1, b, st, q1, q2, h => wfB_b h2 h3 ha n (b + 1) _ (by omega) (by omega) (stB_b h2 h3 ⟨ha, by omega⟩ h)
theorem wfA_b {T N : Int → Int} {v : Int} (h1 : 0 ≤ N 1 ∧ N 1 ≤ 9) (h2 : 0 ≤ N 2 ∧ N 2 ≤ 9) (h3 : 0 ≤ N 3 ∧ N 3 ≤ 9) : ∀ (n : Nat) (a : Int) (st : St5), -9 ≤ a → a + n ≤ 10 → (-1 ≤ st.1 ∧ st.1 ≤ 200) → -1 ≤ (wfA T N v n a st).1 ∧ (wfA T N v n a st).1 ≤ 200
  | 0, a, st, _, _, h => h
  | n + 1, a, st, q1, q2, h => wfA_b h1 h2 h3 n (a + 1) _ (by omega) (by omega) (wfB_b h2 h3 (by omega) _ _ st (by omega) (by omega) h)
theorem wF_b {G : Gdn} (g : GOK G) (hP : 0 < gP G) (v : Int) : -1 ≤ (wF G v).1 ∧ (wF G v).1 ≤ 200 := by
  have b0 := g.2.2.2 hP 0 (by decide) (by decide)
  have b1 := g.2.2.2 hP 1 (by decide) (by decide)
  have b2 := g.2.2.2 hP 2 (by decide) (by decide)
  have b3 := g.2.2.2 hP 3 (by decide) (by decide)
  exact wfA_b (by omega) (by omega) (by omega) _ _ _ (by omega) (by omega) (by decide)

set_option maxRecDepth 20000 in
theorem S_X10_wedges {X : Cx} {h : Hp} {σ : Sg} (a : AC h σ) (o : SOK σ) {p w : Int} (hp : InR p) (hw : InR w) : Spec X mX10_wedges 30 [.ref (adr X 0), .int (iI p), .int (iI w)] h (fun rv h' => rv = some (.int (iI (qWedges σ p w))) ∧ AC h' σ ∧ sameM h h') := by
  have g := a.gb o
  have hG := g.1
  have gk := o.2.2.2.1
  have gb := gk.b
  have gkb := gk.2.1
  have e4 : hI h (hR h 0 6) 4 = gP (sG σ) := a.2.2.2.2.1.1
  have e5 : hI h (hR h 0 6) 5 = gA (sG σ) := a.2.2.2.2.1.2.1
  have e6 : hI h (hR h 0 6) 6 = gK (sG σ) := a.2.2.2.2.1.2.2.1
  have he : hI h (hR h 0 6) 4 % 2 = 0 := by omega
  have vb := gapF_b gk p
  refine spec_wp (Nat.le_of_ble_eq_true rfl) (by decide +kernel) ?_
  refine wp_loc [(0, .ref (adr X 0)), (1, .int (iI p)), (2, .int (iI w))] ⟨rfl, rfl, rfl, trivial⟩ ?_
  refine wp_aload_n dX10_wedges_0 rfl ?_
  refine wp_getM dX10_wedges_1 flX10_46 rfl rfl ?_
  refine wp_iload_n dX10_wedges_4 rfl ?_
  refine wp_callVp dX10_wedges_5 mlX10_152 mvX3_has (S_X3_has g (by first | assumption | (unfold InR; omega))) rfl rfl (by decide) (by decide) (gs0 hG) rfl rfl (Nat.le_of_ble_eq_true rfl) ?_
  refine wp_ifeqb 32 dX10_wedges_8 (by decide) (fun c8 => ?_) (fun c8 => ?_)
  · refine wp_ldc (z := -1000000) dX10_wedges_32 kcX10_181 ?_
    exact wp_iret dX10_wedges_34 rfl (⟨vi (by unfold qWedges; rw [if_neg (by omega)]), a, sameM_rf h⟩)
  · refine wp_iload_n dX10_wedges_11 rfl ?_
    refine wp_iconst dX10_wedges_12 ?_
    refine wp_icmplt 32 dX10_wedges_13 (by decide) (by first | assumption | (unfold InR; omega)) (by first | assumption | (unfold InR; omega)) (fun c13 => ?_) (fun c13 => ?_)
    · refine wp_ldc (z := -1000000) dX10_wedges_32 kcX10_181 ?_
      exact wp_iret dX10_wedges_34 rfl (⟨vi (by unfold qWedges; rw [if_neg (by omega)]), a, sameM_rf h⟩)
    · refine wp_iload_n dX10_wedges_16 rfl ?_
      refine wp_aload_n dX10_wedges_17 rfl ?_
      refine wp_getM dX10_wedges_18 flX10_46 rfl rfl ?_
      refine wp_getI dX10_wedges_21 flX10_168 (gs0 hG) rfl ?_
      refine wp_icmpge 32 dX10_wedges_24 (by decide) (by first | assumption | (unfold InR; omega)) (by first | assumption | (unfold InR; omega)) (fun c24 => ?_) (fun c24 => ?_)
      · refine wp_ldc (z := -1000000) dX10_wedges_32 kcX10_181 ?_
        exact wp_iret dX10_wedges_34 rfl (⟨vi (by unfold qWedges; rw [if_neg (by omega)]), a, sameM_rf h⟩)
      · refine wp_iload_n dX10_wedges_27 rfl ?_
        refine wp_iconst dX10_wedges_28 ?_
        refine wp_icmplt 35 dX10_wedges_29 (by decide) (by first | assumption | (unfold InR; omega)) (by first | assumption | (unfold InR; omega)) (fun c29 => ?_) (fun c29 => ?_)
        · refine wp_aload_n dX10_wedges_35 rfl ?_
          refine wp_getC dX10_wedges_36 flX10_78 rfl rfl ?_
          refine wp_aload_n dX10_wedges_39 rfl ?_
          refine wp_getM dX10_wedges_40 flX10_46 rfl rfl ?_
          refine wp_aload_n dX10_wedges_43 rfl ?_
          refine wp_getM dX10_wedges_44 flX10_46 rfl rfl ?_
          refine wp_iload_n dX10_wedges_47 rfl ?_
          refine wp_callVp dX10_wedges_48 mlX10_182 mvX3_gapAt (S_X3_gapAt g (by assumption) (by omega) (by omega)) rfl rfl (by decide) (by decide) (gs0 hG) rfl rfl (Nat.le_of_ble_eq_true rfl) ?_
          rw [a.gap o (by omega)]
          refine wp_callV dX10_wedges_51 mlX10_243 mvX1_fewest (S_X1_fewest a o (by omega) (by omega)) rfl rfl (by decide) (by decide) rfl rfl rfl (Nat.le_of_ble_eq_true rfl) ?_
          rintro rv h1 ⟨rfl, a, s1, net, hr1⟩
          have e6r : hR h1 0 6 = hR h 0 6 := by unfold hR; rw [hr1]
          have wb := wF_b gk (by omega) (gapF (sG σ) p)
          refine wp_istore_n dX10_wedges_54 (by decide) ?_
          refine wp_iload_n dX10_wedges_55 rfl ?_
          refine wp_iconst dX10_wedges_56 ?_
          refine wp_icmpne 63 dX10_wedges_57 (by decide) (by first | assumption | (unfold InR; omega)) (by first | assumption | (unfold InR; omega)) (fun c57 => ?_) (fun c57 => ?_)
          · refine wp_iload_n dX10_wedges_63 rfl ?_
            refine wp_iconst dX10_wedges_64 ?_
            refine wp_icmpne 72 dX10_wedges_65 (by decide) (by first | assumption | (unfold InR; omega)) (by first | assumption | (unfold InR; omega)) (fun c65 => ?_) (fun c65 => ?_)
            · refine wp_aload_n dX10_wedges_72 rfl ?_
              refine wp_getC dX10_wedges_73 flX10_78 rfl rfl ?_
              refine wp_getC dX10_wedges_76 flX10_247 rfl rfl ?_
              refine wp_iload_n dX10_wedges_79 rfl ?_
              refine wp_iald dX10_wedges_80 rfl (by omega) (by omega) ?_
              have nn := net (by omega)
              exact wp_iret dX10_wedges_81 rfl (⟨vi (by
      unfold qWedges
      rw [if_pos (by omega), if_neg (by omega)]
      first
        | (rw [if_pos (by omega)]; done)
        | (rw [if_neg (by omega)]
           rcases (show w = 0 ∨ w = 1 ∨ w = 2 ∨ w = 3 by omega) with z | z | z | z
           · subst z; rw [if_pos rfl]; exact nn.1
           · subst z; rw [if_neg (by decide), if_pos rfl]; exact nn.2.1
           · subst z; rw [if_neg (by decide), if_neg (by decide), if_pos rfl]; exact nn.2.2.1
           · subst z; rw [if_neg (by decide), if_neg (by decide), if_neg (by decide)]; exact nn.2.2.2)), a, s1⟩)
            · refine wp_iload_n dX10_wedges_68 rfl ?_
              refine wp_goto 81 dX10_wedges_69 (by decide) ?_
              exact wp_iret dX10_wedges_81 rfl (⟨vi (by
      unfold qWedges
      rw [if_pos (by omega), if_neg (by omega)]
      first
        | (rw [if_pos (by omega)]; done)
        | (rw [if_neg (by omega)]
           rcases (show w = 0 ∨ w = 1 ∨ w = 2 ∨ w = 3 by omega) with z | z | z | z
           · subst z; rw [if_pos rfl]; exact nn.1
           · subst z; rw [if_neg (by decide), if_pos rfl]; exact nn.2.1
           · subst z; rw [if_neg (by decide), if_neg (by decide), if_pos rfl]; exact nn.2.2.1
           · subst z; rw [if_neg (by decide), if_neg (by decide), if_neg (by decide)]; exact nn.2.2.2)), a, s1⟩)
          · refine wp_ldc (z := -1000000) dX10_wedges_60 kcX10_181 ?_
            exact wp_iret dX10_wedges_62 rfl (⟨vi (by unfold qWedges; rw [if_pos (by omega), if_pos (by omega)]), a, s1⟩)
        · refine wp_ldc (z := -1000000) dX10_wedges_32 kcX10_181 ?_
          exact wp_iret dX10_wedges_34 rfl (⟨vi (by unfold qWedges; rw [if_neg (by omega)]), a, sameM_rf h⟩)

set_option maxRecDepth 20000 in
theorem S_X10_cheap {X : Cx} {h : Hp} {σ : Sg} (a : AC h σ) (o : SOK σ) {p hv ct w : Int} (hp : InR p) (hhv : InR hv) (hct : InR ct) (hw : InR w) : Spec X mX10_cheap 30 [.ref (adr X 0), .int (iI p), .int (iI hv), .int (iI ct), .int (iI w)] h (fun rv h' => rv = some (.int (iI (qCheap σ p hv ct w))) ∧ AC h' σ ∧ sameM h h') := by
  have g := a.gb o
  have hG := g.1
  have gk := o.2.2.2.1
  have gb := gk.b
  have gkb := gk.2.1
  have e4 : hI h (hR h 0 6) 4 = gP (sG σ) := a.2.2.2.2.1.1
  have e5 : hI h (hR h 0 6) 5 = gA (sG σ) := a.2.2.2.2.1.2.1
  have e6 : hI h (hR h 0 6) 6 = gK (sG σ) := a.2.2.2.2.1.2.2.1
  have he : hI h (hR h 0 6) 4 % 2 = 0 := by omega
  refine spec_wp (Nat.le_of_ble_eq_true rfl) (by decide +kernel) ?_
  refine wp_loc [(0, .ref (adr X 0)), (1, .int (iI p)), (2, .int (iI hv)), (3, .int (iI ct)), (4, .int (iI w))] ⟨rfl, rfl, rfl, rfl, rfl, trivial⟩ ?_
  refine wp_aload_n dX10_cheap_0 rfl ?_
  refine wp_getM dX10_cheap_1 flX10_46 rfl rfl ?_
  refine wp_iload_n dX10_cheap_4 rfl ?_
  refine wp_callVp dX10_cheap_5 mlX10_152 mvX3_has (S_X3_has g (by first | assumption | (unfold InR; omega))) rfl rfl (by decide) (by decide) (gs0 hG) rfl rfl (Nat.le_of_ble_eq_true rfl) ?_
  refine wp_ifeqb 36 dX10_cheap_8 (by decide) (fun c8 => ?_) (fun c8 => ?_)
  · refine wp_iconst dX10_cheap_36 ?_
    exact wp_iret dX10_cheap_37 rfl (⟨vi (by unfold qCheap; rw [if_neg (by omega)]), a, sameM_rf h⟩)
  · refine wp_iload_n dX10_cheap_11 rfl ?_
    refine wp_callSp dX10_cheap_12 mlX10_253 msX10_isTold (S_X10_isTold (by first | assumption | (unfold InR; omega))) rfl rfl (by decide) (by decide) (Nat.le_of_ble_eq_true rfl) ?_
    refine wp_ifeqb 36 dX10_cheap_15 (by decide) (fun c15 => ?_) (fun c15 => ?_)
    · refine wp_iconst dX10_cheap_36 ?_
      exact wp_iret dX10_cheap_37 rfl (⟨vi (by unfold qCheap; rw [if_neg (by omega)]), a, sameM_rf h⟩)
    · refine wp_iload_n dX10_cheap_18 rfl ?_
      refine wp_callSp dX10_cheap_19 mlX10_253 msX10_isTold (S_X10_isTold (by first | assumption | (unfold InR; omega))) rfl rfl (by decide) (by decide) (Nat.le_of_ble_eq_true rfl) ?_
      refine wp_ifeqb 36 dX10_cheap_22 (by decide) (fun c22 => ?_) (fun c22 => ?_)
      · refine wp_iconst dX10_cheap_36 ?_
        exact wp_iret dX10_cheap_37 rfl (⟨vi (by unfold qCheap; rw [if_neg (by omega)]), a, sameM_rf h⟩)
      · refine wp_iload dX10_cheap_25 rfl ?_
        refine wp_iflt 36 dX10_cheap_27 (by decide) (by first | assumption | (unfold InR; omega)) (fun c27 => ?_) (fun c27 => ?_)
        · refine wp_iconst dX10_cheap_36 ?_
          exact wp_iret dX10_cheap_37 rfl (⟨vi (by unfold qCheap; rw [if_neg (by omega)]), a, sameM_rf h⟩)
        · refine wp_iload dX10_cheap_30 rfl ?_
          refine wp_iconst dX10_cheap_32 ?_
          refine wp_icmple 38 dX10_cheap_33 (by decide) (by first | assumption | (unfold InR; omega)) (by first | assumption | (unfold InR; omega)) (fun c33 => ?_) (fun c33 => ?_)
          · refine wp_iconst dX10_cheap_38 ?_
            refine wp_istore dX10_cheap_39 (by decide) ?_
            refine wp_iconst dX10_cheap_41 ?_
            refine wp_istore dX10_cheap_42 (by decide) ?_
            refine wp_iconst dX10_cheap_44 ?_
            refine wp_istore dX10_cheap_45 (by decide) ?_
            obtain ⟨V, hV0⟩ : ∃ V : Int, V = qCheap σ p hv ct w := ⟨_, rfl⟩
            rw [← hV0]
            unfold qCheap at hV0
            rw [if_pos (by omega)] at hV0
            have L : ∀ (n : Nat) (q f l : Int) (h1 : Hp), (q + n = gP (sG σ)) → (0 ≤ q) → (-1 ≤ f ∧ f ≤ 24 ∧ -30000 ≤ l ∧ l ≤ 30000) → (AC h1 σ) → (sameM h h1) → (V = selC w (chF (sG σ) p hv ct n q f l)) → WP X mX10_cheap 30 47 [(0, .ref (adr X 0)), (1, .int (iI p)), (2, .int (iI hv)), (3, .int (iI ct)), (4, .int (iI w)), (5, .int (iI f)), (6, .int (iI l)), (7, .int (iI q))] [] h1 (fun rv h' => rv = some (.int (iI V)) ∧ AC h' σ ∧ sameM h h') := by
              intro n
              induction n with
              | zero =>
                intro q f l h1 hn hq hf a s1 hV
                have g := a.gb o
                have hG := g.1
                have gk := o.2.2.2.1
                have gb := gk.b
                have gkb := gk.2.1
                have e4 : hI h1 (hR h1 0 6) 4 = gP (sG σ) := a.2.2.2.2.1.1
                have e5 : hI h1 (hR h1 0 6) 5 = gA (sG σ) := a.2.2.2.2.1.2.1
                have e6 : hI h1 (hR h1 0 6) 6 = gK (sG σ) := a.2.2.2.2.1.2.2.1
                have he : hI h1 (hR h1 0 6) 4 % 2 = 0 := by omega
                refine wp_iload dX10_cheap_47 rfl ?_
                refine wp_aload_n dX10_cheap_49 rfl ?_
                refine wp_getM dX10_cheap_50 flX10_46 rfl rfl ?_
                refine wp_getI dX10_cheap_53 flX10_137 (gs0 hG) rfl ?_
                refine wp_icmpge 147 dX10_cheap_56 (by decide) (by first | assumption | (unfold InR; omega)) (by first | assumption | (unfold InR; omega)) (fun c56 => ?_) (fun c56 => ?_)
                · refine wp_iload dX10_cheap_147 rfl ?_
                  refine wp_iconst dX10_cheap_149 ?_
                  refine wp_icmpeq 158 dX10_cheap_150 (by decide) (by first | assumption | (unfold InR; omega)) (by first | assumption | (unfold InR; omega)) (fun c150 => ?_) (fun c150 => ?_)
                  · refine wp_iload dX10_cheap_158 rfl ?_
                    refine wp_goto 165 dX10_cheap_160 (by decide) ?_
                    exact wp_iret dX10_cheap_165 rfl (⟨vi (by rw [hV, chF, selC]; first | (rw [if_pos (Or.inl (by omega))]; done) | (rw [if_pos (Or.inr (by omega))]; done) | (rw [if_neg (fun q => by dsimp only at q; omega)]; done)), a, s1⟩)
                  · refine wp_iload dX10_cheap_153 rfl ?_
                    refine wp_ifne 163 dX10_cheap_155 (by decide) (by first | assumption | (unfold InR; omega)) (fun c155 => ?_) (fun c155 => ?_)
                    · refine wp_iload dX10_cheap_163 rfl ?_
                      exact wp_iret dX10_cheap_165 rfl (⟨vi (by rw [hV, chF, selC]; first | (rw [if_pos (Or.inl (by omega))]; done) | (rw [if_pos (Or.inr (by omega))]; done) | (rw [if_neg (fun q => by dsimp only at q; omega)]; done)), a, s1⟩)
                    · refine wp_iload dX10_cheap_158 rfl ?_
                      refine wp_goto 165 dX10_cheap_160 (by decide) ?_
                      exact wp_iret dX10_cheap_165 rfl (⟨vi (by rw [hV, chF, selC]; first | (rw [if_pos (Or.inl (by omega))]; done) | (rw [if_pos (Or.inr (by omega))]; done) | (rw [if_neg (fun q => by dsimp only at q; omega)]; done)), a, s1⟩)
                · exact absurd c56 (by omega)
              | succ n ih =>
                intro q f l h1 hn hq hf a s1 hV
                have g := a.gb o
                have hG := g.1
                have gk := o.2.2.2.1
                have gb := gk.b
                have gkb := gk.2.1
                have e4 : hI h1 (hR h1 0 6) 4 = gP (sG σ) := a.2.2.2.2.1.1
                have e5 : hI h1 (hR h1 0 6) 5 = gA (sG σ) := a.2.2.2.2.1.2.1
                have e6 : hI h1 (hR h1 0 6) 6 = gK (sG σ) := a.2.2.2.2.1.2.2.1
                have he : hI h1 (hR h1 0 6) 4 % 2 = 0 := by omega
                refine wp_iload dX10_cheap_47 rfl ?_
                refine wp_aload_n dX10_cheap_49 rfl ?_
                refine wp_getM dX10_cheap_50 flX10_46 rfl rfl ?_
                refine wp_getI dX10_cheap_53 flX10_137 (gs0 hG) rfl ?_
                refine wp_icmpge 147 dX10_cheap_56 (by decide) (by first | assumption | (unfold InR; omega)) (by first | assumption | (unfold InR; omega)) (fun c56 => ?_) (fun c56 => ?_)
                · exact absurd c56 (by omega)
                · refine wp_aload_n dX10_cheap_59 rfl ?_
                  refine wp_getC dX10_cheap_60 flX10_78 rfl rfl ?_
                  refine wp_aload_n dX10_cheap_63 rfl ?_
                  refine wp_getM dX10_cheap_64 flX10_46 rfl rfl ?_
                  refine wp_aload_n dX10_cheap_67 rfl ?_
                  refine wp_getM dX10_cheap_68 flX10_46 rfl rfl ?_
                  refine wp_iload dX10_cheap_71 rfl ?_
                  refine wp_callVp dX10_cheap_73 mlX10_182 mvX3_gapAt (S_X3_gapAt g (by assumption) (by omega) (by omega)) rfl rfl (by decide) (by decide) (gs0 hG) rfl rfl (Nat.le_of_ble_eq_true rfl) ?_
                  have vb := gapF_b gk q
                  rw [a.gap o (by omega)]
                  refine wp_callV dX10_cheap_76 mlX10_243 mvX1_fewest (S_X1_fewest a o (by omega) (by omega)) rfl rfl (by decide) (by decide) rfl rfl rfl (Nat.le_of_ble_eq_true rfl) ?_
                  rintro rv h2 ⟨rfl, a, s2, net, hr1⟩
                  have s1 := sameM_tr s1 s2
                  have g := a.gb o
                  have hG := g.1
                  have gk := o.2.2.2.1
                  have gb := gk.b
                  have gkb := gk.2.1
                  have e4 : hI h2 (hR h2 0 6) 4 = gP (sG σ) := a.2.2.2.2.1.1
                  have e5 : hI h2 (hR h2 0 6) 5 = gA (sG σ) := a.2.2.2.2.1.2.1
                  have e6 : hI h2 (hR h2 0 6) 6 = gK (sG σ) := a.2.2.2.2.1.2.2.1
                  have he : hI h2 (hR h2 0 6) 4 % 2 = 0 := by omega
                  have wb := wF_b gk (by omega) (gapF (sG σ) q)
                  generalize hz : (wF (sG σ) (gapF (sG σ) q)).1 = z at wb
                  refine wp_istore dX10_cheap_79 (by decide) ?_
                  refine wp_iload dX10_cheap_81 rfl ?_
                  refine wp_iconst dX10_cheap_83 ?_
                  refine wp_icmpeq 141 dX10_cheap_84 (by decide) (by first | assumption | (unfold InR; omega)) (by first | assumption | (unfold InR; omega)) (fun c84 => ?_) (fun c84 => ?_)
                  · refine wp_iinc dX10_cheap_141 rfl (by decide) ?_
                    refine wp_goto 47 dX10_cheap_144 (by decide) ?_
                    refine wp_loc [(0, .ref (adr X 0)), (1, .int (iI p)), (2, .int (iI hv)), (3, .int (iI ct)), (4, .int (iI w)), (5, .int (iI f)), (6, .int (iI l)), (7, .int (iI (q + 1)))] ⟨rfl, rfl, rfl, rfl, rfl, rfl, rfl, rfl, trivial⟩ ?_
                    exact ih (q + 1) f l h2 (by omega) (by omega) hf a s1 (by rw [hV, chF, hz, if_neg (fun z => z.1 c84)])
                  · refine wp_iload dX10_cheap_87 rfl ?_
                    refine wp_iload_n dX10_cheap_89 rfl ?_
                    refine wp_isub dX10_cheap_90 ?_
                    refine wp_callSp dX10_cheap_91 mlX10_222 msJ9_abs_0f7a4 (S_J9_abs_0f7a4 (by unfold InR; omega)) rfl rfl (by decide) (by decide) (Nat.le_of_ble_eq_true rfl) ?_
                    refine wp_istore dX10_cheap_94 (by decide) ?_
                    refine wp_iload_n dX10_cheap_96 rfl ?_
                    refine wp_iload dX10_cheap_97 rfl ?_
                    refine wp_aload_n dX10_cheap_99 rfl ?_
                    refine wp_getM dX10_cheap_100 flX10_46 rfl rfl ?_
                    refine wp_getI dX10_cheap_103 flX10_137 (gs0 hG) rfl ?_
                    refine wp_iload dX10_cheap_106 rfl ?_
                    refine wp_isub dX10_cheap_108 ?_
                    have ub := iabs_b (n := gP (sG σ) - 1) (x := q - p) (by omega)
                    rw [e4]
                    refine wp_callSp dX10_cheap_109 mlX10_256 msJ9_min_7cf53 (S_J9_min_7cf53 (by unfold InR; omega) (by unfold InR; omega)) rfl rfl (by decide) (by decide) (Nat.le_of_ble_eq_true rfl) ?_
                    refine wp_imul dX10_cheap_112 ?_
                    refine wp_iload_n dX10_cheap_113 rfl ?_
                    refine wp_iload dX10_cheap_114 rfl ?_
                    refine wp_imul dX10_cheap_116 ?_
                    refine wp_iadd dX10_cheap_117 ?_
                    have m1 := mul_b (A := 99) (B := 24) (s := hv) (z := min (iabs (q - p)) (gP (sG σ) - iabs (q - p))) (by omega) (by omega) (by omega)
                    have m2 := mul_b (A := 99) (B := 200) (s := ct) (z := z) (by omega) (by omega) (by omega)
                    generalize ht : hv * min (iabs (q - p)) (gP (sG σ) - iabs (q - p)) + ct * z = t at *
                    have tb : -30000 ≤ t ∧ t ≤ 30000 := by omega
                    refine wp_istore dX10_cheap_118 (by decide) ?_
                    refine wp_iload dX10_cheap_120 rfl ?_
                    refine wp_iconst dX10_cheap_122 ?_
                    refine wp_icmpeq 133 dX10_cheap_123 (by decide) (by first | assumption | (unfold InR; omega)) (by first | assumption | (unfold InR; omega)) (fun c123 => ?_) (fun c123 => ?_)
                    · refine wp_iload dX10_cheap_133 rfl ?_
                      refine wp_istore dX10_cheap_135 (by decide) ?_
                      refine wp_iload dX10_cheap_137 rfl ?_
                      refine wp_istore dX10_cheap_139 (by decide) ?_
                      refine wp_iinc dX10_cheap_141 rfl (by decide) ?_
                      refine wp_goto 47 dX10_cheap_144 (by decide) ?_
                      refine wp_loc [(0, .ref (adr X 0)), (1, .int (iI p)), (2, .int (iI hv)), (3, .int (iI ct)), (4, .int (iI w)), (5, .int (iI q)), (6, .int (iI t)), (7, .int (iI (q + 1)))] ⟨rfl, rfl, rfl, rfl, rfl, rfl, rfl, rfl, trivial⟩ ?_
                      exact ih (q + 1) q t h2 (by omega) (by omega) (by omega) a s1 (by rw [hV, chF, hz, ht, if_pos ⟨by omega, by omega⟩])
                    · refine wp_iload dX10_cheap_126 rfl ?_
                      refine wp_iload dX10_cheap_128 rfl ?_
                      refine wp_icmpge 141 dX10_cheap_130 (by decide) (by first | assumption | (unfold InR; omega)) (by first | assumption | (unfold InR; omega)) (fun c130 => ?_) (fun c130 => ?_)
                      · refine wp_iinc dX10_cheap_141 rfl (by decide) ?_
                        refine wp_goto 47 dX10_cheap_144 (by decide) ?_
                        refine wp_loc [(0, .ref (adr X 0)), (1, .int (iI p)), (2, .int (iI hv)), (3, .int (iI ct)), (4, .int (iI w)), (5, .int (iI f)), (6, .int (iI l)), (7, .int (iI (q + 1)))] ⟨rfl, rfl, rfl, rfl, rfl, rfl, rfl, rfl, trivial⟩ ?_
                        exact ih (q + 1) f l h2 (by omega) (by omega) hf a s1 (by rw [hV, chF, hz, if_neg (fun z => by have := z.2; omega)])
                      · refine wp_iload dX10_cheap_133 rfl ?_
                        refine wp_istore dX10_cheap_135 (by decide) ?_
                        refine wp_iload dX10_cheap_137 rfl ?_
                        refine wp_istore dX10_cheap_139 (by decide) ?_
                        refine wp_iinc dX10_cheap_141 rfl (by decide) ?_
                        refine wp_goto 47 dX10_cheap_144 (by decide) ?_
                        refine wp_loc [(0, .ref (adr X 0)), (1, .int (iI p)), (2, .int (iI hv)), (3, .int (iI ct)), (4, .int (iI w)), (5, .int (iI q)), (6, .int (iI t)), (7, .int (iI (q + 1)))] ⟨rfl, rfl, rfl, rfl, rfl, rfl, rfl, rfl, trivial⟩ ?_
                        exact ih (q + 1) q t h2 (by omega) (by omega) (by omega) a s1 (by rw [hV, chF, hz, ht, if_pos ⟨by omega, by omega⟩])
            refine wp_loc [(0, .ref (adr X 0)), (1, .int (iI p)), (2, .int (iI hv)), (3, .int (iI ct)), (4, .int (iI w)), (5, .int (iI (-1))), (6, .int (iI 0)), (7, .int (iI 0))] ⟨rfl, rfl, rfl, rfl, rfl, rfl, rfl, rfl, trivial⟩ ?_
            exact L (gP (sG σ)).toNat 0 (-1) 0 h (by omega) (by omega) (by omega) a (sameM_rf h) hV0
          · refine wp_iconst dX10_cheap_36 ?_
            exact wp_iret dX10_cheap_37 rfl (⟨vi (by unfold qCheap; rw [if_neg (by omega)]), a, sameM_rf h⟩)

