/-! CARDS: the fewest, how many ways -/
theorem tbB_b {T2 T3 a : Int} (ha : -9 ≤ a ∧ a ≤ 9) : ∀ (n : Nat) (b : Int) (t : Tb), -9 ≤ b → b + n ≤ 10 → (∀ s, -1 ≤ (t s).1 ∧ (t s).1 ≤ 100) → ∀ s, -1 ≤ (tbB T2 T3 a n b t s).1 ∧ (tbB T2 T3 a n b t s).1 ≤ 100
  | 0, b, t, _, _, h => h
  | n + 1, b, t, h1, h2, h => tbB_b ha n (b + 1) _ (by omega) (by omega) (ntF_b h ⟨ha, by omega⟩)
theorem tbA_b {T2 T3 N3 : Int} (hN : 0 ≤ N3 ∧ N3 ≤ 9) : ∀ (n : Nat) (a : Int) (t : Tb), -9 ≤ a → a + n ≤ 10 → (∀ s, -1 ≤ (t s).1 ∧ (t s).1 ≤ 100) → ∀ s, -1 ≤ (tbA T2 T3 N3 n a t s).1 ∧ (tbA T2 T3 N3 n a t s).1 ≤ 100
  | 0, a, t, _, _, h => h
  | n + 1, a, t, h1, h2, h => tbA_b hN n (a + 1) _ (by omega) (by omega) (tbB_b (by omega) _ _ t (by omega) (by omega) h)
theorem tab_b {T N : Int → Int} (h2 : 0 ≤ N 2 ∧ N 2 ≤ 9) (h3 : 0 ≤ N 3 ∧ N 3 ≤ 9) (s : Int) : -1 ≤ (tab T N s).1 ∧ (tab T N s).1 ≤ 100 := tbA_b h3 _ _ _ (by omega) (by omega) (fun s => by dsimp only; omega) s
abbrev St5 : Type := Int × Int × Int × Int × Int
def stB (T N : Int → Int) (v a b : Int) (st : St5) : St5 := if (-far T N ≤ -v - T 0 * a - T 1 * b ∧ -v - T 0 * a - T 1 * b ≤ far T N) ∧ (tab T N (-v - T 0 * a - T 1 * b)).1 ≠ -1 then (if st.1 = -1 ∨ iabs a + iabs b + (tab T N (-v - T 0 * a - T 1 * b)).1 < st.1 then (iabs a + iabs b + (tab T N (-v - T 0 * a - T 1 * b)).1, a, b, (tab T N (-v - T 0 * a - T 1 * b)).2.1, (tab T N (-v - T 0 * a - T 1 * b)).2.2.1) else st) else st
def wfB (T N : Int → Int) (v a : Int) : Nat → Int → St5 → St5
  | 0, _, st => st
  | n + 1, b, st => wfB T N v a n (b + 1) (stB T N v a b st)
def wfA (T N : Int → Int) (v : Int) : Nat → Int → St5 → St5
  | 0, _, st => st
  | n + 1, a, st => wfA T N v n (a + 1) (wfB T N v a (2 * N 1 + 1).toNat (-N 1) st)
def wF (G : Gdn) (v : Int) : St5 := wfA (gT G) (gN G) v (2 * gN G 0 + 1).toNat (-gN G 0) (-1, 0, 0, 0, 0)
def NET (h : Hp) (st : St5) : Prop := st.1 ≠ -1 → hI h 41 0 = st.2.1 ∧ hI h 41 1 = st.2.2.1 ∧ hI h 41 2 = st.2.2.2.1 ∧ hI h 41 3 = st.2.2.2.2
def FI (h0 h : Hp) (σ : Sg) (st : St5) : Prop := AC h σ ∧ sameM h0 h ∧ hI h 36 5 = 1 ∧ h.2 = h0.2 ∧ NET h st ∧ -1 ≤ st.1 ∧ st.1 ≤ 200
/-- four numbers put into cell 41 -/
def ntH (h : Hp) (a b c d : Int) : Hp := sI (sI (sI (sI h 41 0 a) 41 1 b) 41 2 c) 41 3 d
theorem ntH_I {h : Hp} {a b c d : Int} {e j : Nat} (he : e ≠ 41) : hI (ntH h a b c d) e j = hI h e j := by unfold ntH; rw [hI_sI, if_neg (by omega), hI_sI, if_neg (by omega), hI_sI, if_neg (by omega), hI_sI, if_neg (by omega)]
theorem ntH_off {h : Hp} {a b c d : Int} : OffS h (ntH h a b c d) := (((OffS.sI (Or.inr (by decide))).tr (OffS.sI (Or.inr (by decide)))).tr (OffS.sI (Or.inr (by decide)))).tr (OffS.sI (Or.inr (by decide)))
theorem ntH_n {h : Hp} {u a b c d : Int} : NET (ntH h a b c d) (u, a, b, c, d) := fun _ => by
  unfold ntH
  refine ⟨?_, ?_, ?_, ?_⟩
  · rw [hI_sI, if_neg (by omega), hI_sI, if_neg (by omega), hI_sI, if_neg (by omega), hI_sI, if_pos ⟨rfl, rfl⟩]
  · rw [hI_sI, if_neg (by omega), hI_sI, if_neg (by omega), hI_sI, if_pos ⟨rfl, rfl⟩]
  · rw [hI_sI, if_neg (by omega), hI_sI, if_pos ⟨rfl, rfl⟩]
  · rw [hI_sI, if_pos ⟨rfl, rfl⟩]

set_option maxRecDepth 20000 in
theorem S_X1_fewest {X : Cx} {h : Hp} {σ : Sg} {v : Int} (a : AC h σ) (o : SOK σ) (hP : 0 < gP (sG σ)) (hv : -1000 ≤ v ∧ v ≤ 1000) : Spec X mX1_fewest 12 [.ref (adr X 36), .ref (adr X (hR h 0 6)), .int (iI v)] h (fun rv h' => rv = some (.int (iI (wF (sG σ) v).1)) ∧ AC h' σ ∧ sameM h h' ∧ NET h' (wF (sG σ) v) ∧ h'.2 = h.2) := by
  have g := a.gb o
  have hG := g.1
  have gk := o.2.2.2.1
  have gb := gk.b
  have gkb := gk.2.1
  have e4 : hI h (hR h 0 6) 4 = gP (sG σ) := a.2.2.2.2.1.1
  have e5 : hI h (hR h 0 6) 5 = gA (sG σ) := a.2.2.2.2.1.2.1
  have e6 : hI h (hR h 0 6) 6 = gK (sG σ) := a.2.2.2.2.1.2.2.1
  have he : hI h (hR h 0 6) 4 % 2 = 0 := by omega
  have bd0 := gk.2.2.2 hP 0 (by decide) (by decide)
  have bd1 := gk.2.2.2 hP 1 (by decide) (by decide)
  have bd2 := gk.2.2.2 hP 2 (by decide) (by decide)
  have bd3 := gk.2.2.2 hP 3 (by decide) (by decide)
  have fb := far_b (T := gT (sG σ)) (N := gN (sG σ)) ⟨bd2.1, bd2.2.1, bd2.2.2.1, bd2.2.2.2.1⟩ ⟨bd3.1, bd3.2.1, bd3.2.2.1, bd3.2.2.2.1⟩
  have gg : hR h 0 6 = 20 ∨ hR h 0 6 = 25 := hG
  refine spec_wp (Nat.le_of_ble_eq_true rfl) (by decide +kernel) ?_
  refine wp_loc [(0, .ref (adr X 36)), (1, .ref (adr X (hR h 0 6))), (2, .int (iI v))] ⟨rfl, rfl, rfl, trivial⟩ ?_
  refine wp_aload_n dX1_fewest_0 rfl ?_
  refine wp_aload_n dX1_fewest_1 rfl ?_
  refine wp_callV dX1_fewest_2 mlX1_66 mvX1_build (S_X1_build a o hP) rfl rfl (by decide) (by decide) rfl rfl rfl (Nat.le_of_ble_eq_true rfl) ?_
  rintro rv h2 ⟨rfl, a, s1, hb1, hr1⟩
  have e6r : hR h2 0 6 = hR h 0 6 := by unfold hR; rw [hr1]
  have n0 : hI h2 (hR h 0 6 + 4) (0 : Int).toNat = gN (sG σ) 0 := by rw [← e6r]; exact (a.2.2.2.2.1.2.2.2.2.2.2 hP 0 (by decide)).2
  have n1 : hI h2 (hR h 0 6 + 4) (1 : Int).toNat = gN (sG σ) 1 := by rw [← e6r]; exact (a.2.2.2.2.1.2.2.2.2.2.2 hP 1 (by decide)).2
  refine wp_iconst dX1_fewest_5 ?_
  refine wp_istore_n dX1_fewest_6 (by decide) ?_
  refine wp_aload_n dX1_fewest_7 rfl ?_
  refine wp_getC dX1_fewest_8 flX1_35 (gs0 hG) rfl ?_
  refine wp_iconst dX1_fewest_11 ?_
  refine wp_iald dX1_fewest_12 (by first | rfl | exact gs1 hG | exact gs2 hG | exact gs3 hG | exact gs4 hG | exact ws1 hW | exact ws2 hW | assumption) (by omega) (by omega) ?_
  rw [n0]
  refine wp_istore dX1_fewest_13 (by decide) ?_
  refine wp_aload_n dX1_fewest_15 rfl ?_
  refine wp_getC dX1_fewest_16 flX1_35 (gs0 hG) rfl ?_
  refine wp_iconst dX1_fewest_19 ?_
  refine wp_iald dX1_fewest_20 (by first | rfl | exact gs1 hG | exact gs2 hG | exact gs3 hG | exact gs4 hG | exact ws1 hW | exact ws2 hW | assumption) (by omega) (by omega) ?_
  rw [n1]
  refine wp_istore dX1_fewest_21 (by decide) ?_
  refine wp_iload dX1_fewest_23 rfl ?_
  refine wp_ineg dX1_fewest_25 ?_
  refine wp_istore dX1_fewest_26 (by decide) ?_
  have L : ∀ (n : Nat) (a1 : Int) (h2 : Hp) (st : St5), (a1 + n = gN (sG σ) 0 + 1) → (-gN (sG σ) 0 ≤ a1) → (FI h h2 σ st) → (wfA (gT (sG σ)) (gN (sG σ)) v n a1 st = wF (sG σ) v) → WP X mX1_fewest 12 28 [(0, .ref (adr X 36)), (1, .ref (adr X (hR h 0 6))), (2, .int (iI v)), (3, .int (iI st.1)), (4, .int (iI (gN (sG σ) 0))), (5, .int (iI (gN (sG σ) 1))), (6, .int (iI a1))] [] h2 (fun rv h' => rv = some (.int (iI (wF (sG σ) v).1)) ∧ AC h' σ ∧ sameM h h' ∧ NET h' (wF (sG σ) v) ∧ h'.2 = h.2) := by
    intro n
    induction n with
    | zero =>
      intro a1 h2 st hn ha1 fi hT
      refine wp_iload dX1_fewest_28 rfl ?_
      refine wp_iload dX1_fewest_30 rfl ?_
      refine wp_icmpgt 181 dX1_fewest_32 (by decide) (by unfold InR; omega) (by unfold InR; omega) (fun c32 => ?_) (fun c32 => ?_)
      · refine wp_iload_n dX1_fewest_181 rfl ?_
        exact wp_iret dX1_fewest_182 rfl (by
          have hT : st = wF (sG σ) v := hT
          exact ⟨vi (by rw [hT]), fi.1, fi.2.1, by rw [← hT]; exact fi.2.2.2.2.1, fi.2.2.2.1⟩)
      · exact absurd c32 (by omega)
    | succ n iho =>
      intro a1 h2 st hn ha1 fi hT
      refine wp_iload dX1_fewest_28 rfl ?_
      refine wp_iload dX1_fewest_30 rfl ?_
      refine wp_icmpgt 181 dX1_fewest_32 (by decide) (by unfold InR; omega) (by unfold InR; omega) (fun c32 => ?_) (fun c32 => ?_)
      · exact absurd c32 (by omega)
      · refine wp_iload dX1_fewest_35 rfl ?_
        refine wp_ineg dX1_fewest_37 ?_
        refine wp_istore dX1_fewest_38 (by decide) ?_
        obtain ⟨U, hUd⟩ : ∃ U, U = wfB (gT (sG σ)) (gN (sG σ)) v a1 (2 * gN (sG σ) 1 + 1).toNat (-gN (sG σ) 1) st := ⟨_, rfl⟩
        rw [wfA, ← hUd] at hT
        have Li : ∀ (n2 : Nat) (b1 : Int) (h2 : Hp) (st : St5), (b1 + n2 = gN (sG σ) 1 + 1) → (-gN (sG σ) 1 ≤ b1) → (FI h h2 σ st) → (wfB (gT (sG σ)) (gN (sG σ)) v a1 n2 b1 st = U) → WP X mX1_fewest 12 40 [(0, .ref (adr X 36)), (1, .ref (adr X (hR h 0 6))), (2, .int (iI v)), (3, .int (iI st.1)), (4, .int (iI (gN (sG σ) 0))), (5, .int (iI (gN (sG σ) 1))), (6, .int (iI a1)), (7, .int (iI b1))] [] h2 (fun rv h' => rv = some (.int (iI (wF (sG σ) v).1)) ∧ AC h' σ ∧ sameM h h' ∧ NET h' (wF (sG σ) v) ∧ h'.2 = h.2) := by
          intro n2
          induction n2 with
          | zero =>
            intro b1 h2 st hm hb1 fi hU
            have a := fi.1
            have e6r : hR h2 0 6 = hR h 0 6 := by unfold hR; rw [fi.2.2.2.1]
            have t0 : hI h2 (hR h 0 6 + 3) (0 : Int).toNat = gT (sG σ) 0 := by rw [← e6r]; exact (a.2.2.2.2.1.2.2.2.2.2.2 hP 0 (by decide)).1
            have t1 : hI h2 (hR h 0 6 + 3) (1 : Int).toNat = gT (sG σ) 1 := by rw [← e6r]; exact (a.2.2.2.2.1.2.2.2.2.2.2 hP 1 (by decide)).1
            obtain ⟨f4, ftb⟩ := a.2.2.2.2.2.2.2.2.2 fi.2.2.1
            refine wp_iload dX1_fewest_40 rfl ?_
            refine wp_iload dX1_fewest_42 rfl ?_
            refine wp_icmpgt 175 dX1_fewest_44 (by decide) (by unfold InR; omega) (by unfold InR; omega) (fun c44 => ?_) (fun c44 => ?_)
            · refine wp_iinc dX1_fewest_175 rfl (by decide) ?_
              refine wp_goto 28 dX1_fewest_178 (by decide) ?_
              refine wp_loc [(0, .ref (adr X 36)), (1, .ref (adr X (hR h 0 6))), (2, .int (iI v)), (3, .int (iI st.1)), (4, .int (iI (gN (sG σ) 0))), (5, .int (iI (gN (sG σ) 1))), (6, .int (iI (a1 + 1)))] ⟨rfl, rfl, rfl, rfl, rfl, rfl, rfl, trivial⟩ ?_
              have hU : st = U := hU
              exact iho (a1 + 1) h2 st (by omega) (by omega) fi (by rw [hU]; exact hT)
            · exact absurd c44 (by omega)
          | succ n2 ihi =>
            intro b1 h2 st hm hb1 fi hU
            have a := fi.1
            have e6r : hR h2 0 6 = hR h 0 6 := by unfold hR; rw [fi.2.2.2.1]
            have t0 : hI h2 (hR h 0 6 + 3) (0 : Int).toNat = gT (sG σ) 0 := by rw [← e6r]; exact (a.2.2.2.2.1.2.2.2.2.2.2 hP 0 (by decide)).1
            have t1 : hI h2 (hR h 0 6 + 3) (1 : Int).toNat = gT (sG σ) 1 := by rw [← e6r]; exact (a.2.2.2.2.1.2.2.2.2.2.2 hP 1 (by decide)).1
            obtain ⟨f4, ftb⟩ := a.2.2.2.2.2.2.2.2.2 fi.2.2.1
            refine wp_iload dX1_fewest_40 rfl ?_
            refine wp_iload dX1_fewest_42 rfl ?_
            refine wp_icmpgt 175 dX1_fewest_44 (by decide) (by unfold InR; omega) (by unfold InR; omega) (fun c44 => ?_) (fun c44 => ?_)
            · exact absurd c44 (by omega)
            · refine wp_aload_n dX1_fewest_47 rfl ?_
              refine wp_iload_n dX1_fewest_48 rfl ?_
              refine wp_ineg dX1_fewest_49 ?_
              refine wp_aload_n dX1_fewest_50 rfl ?_
              refine wp_getC dX1_fewest_51 flX1_40 (gs0 hG) rfl ?_
              refine wp_iconst dX1_fewest_54 ?_
              refine wp_iald dX1_fewest_55 (by first | rfl | exact gs1 hG | exact gs2 hG | exact gs3 hG | exact gs4 hG | exact ws1 hW | exact ws2 hW | assumption) (by omega) (by omega) ?_
              refine wp_iload dX1_fewest_56 rfl ?_
              refine wp_imul dX1_fewest_58 ?_
              refine wp_isub dX1_fewest_59 ?_
              refine wp_aload_n dX1_fewest_60 rfl ?_
              refine wp_getC dX1_fewest_61 flX1_40 (gs0 hG) rfl ?_
              refine wp_iconst dX1_fewest_64 ?_
              refine wp_iald dX1_fewest_65 (by first | rfl | exact gs1 hG | exact gs2 hG | exact gs3 hG | exact gs4 hG | exact ws1 hW | exact ws2 hW | assumption) (by omega) (by omega) ?_
              refine wp_iload dX1_fewest_66 rfl ?_
              refine wp_imul dX1_fewest_68 ?_
              refine wp_isub dX1_fewest_69 ?_
              rw [t0, t1]
              have m1 := mul_bb (A := gN (sG σ) 0) (B := 20) (s := a1) (z := gT (sG σ) 0) (by omega) (by omega) (by omega)
              have m2 := mul_bb (A := gN (sG σ) 1) (B := 20) (s := b1) (z := gT (sG σ) 1) (by omega) (by omega) (by omega)
              have m3 := mul_b (A := 20) (B := 9) (s := gT (sG σ) 0) (z := gN (sG σ) 0) (by omega) (by omega) (by omega)
              have m4 := mul_b (A := 20) (B := 9) (s := gT (sG σ) 1) (z := gN (sG σ) 1) (by omega) (by omega) (by omega)
              obtain ⟨s, hsd⟩ : ∃ s : Int, s = -v - gT (sG σ) 0 * a1 - gT (sG σ) 1 * b1 := ⟨_, rfl⟩
              have sbd : -3000 ≤ s ∧ s ≤ 3000 := by omega
              rw [← hsd]
              refine wp_callVp dX1_fewest_70 mlX1_59 mvX1_placeOf (S_X1_placeOf (by omega) (by omega)) rfl rfl (by decide) (by decide) rfl rfl rfl (Nat.le_of_ble_eq_true rfl) ?_
              rw [f4]
              rw [wfB, stB, ← hsd] at hU
              have fib := fi.2.2.2.2.2
              by_cases hin : -far (gT (sG σ)) (gN (sG σ)) ≤ s ∧ s ≤ far (gT (sG σ)) (gN (sG σ))
              · rw [if_pos hin]
                obtain ⟨w1, w2, w3⟩ := ftb s hin.1 hin.2
                have tbd := tab_b (T := gT (sG σ)) (N := gN (sG σ)) (by omega) (by omega) s
                refine wp_istore dX1_fewest_73 (by decide) ?_
                refine wp_iload dX1_fewest_75 rfl ?_
                refine wp_iconst dX1_fewest_77 ?_
                refine wp_icmpeq 169 dX1_fewest_78 (by decide) (by unfold InR; omega) (by unfold InR; omega) (fun c78 => ?_) (fun c78 => ?_)
                · exact absurd c78 (by omega)
                · refine wp_aload_n dX1_fewest_81 rfl ?_
                  refine wp_getC dX1_fewest_82 flX1_11 rfl rfl ?_
                  refine wp_iload dX1_fewest_85 rfl ?_
                  refine wp_iald dX1_fewest_87 (by first | rfl | exact gs1 hG | exact gs2 hG | exact gs3 hG | exact gs4 hG | exact ws1 hW | exact ws2 hW | assumption) (by omega) (by omega) ?_
                  rw [w1]
                  refine wp_iconst dX1_fewest_88 ?_
                  refine wp_icmpeq 169 dX1_fewest_89 (by decide) (by unfold InR; omega) (by unfold InR; omega) (fun c89 => ?_) (fun c89 => ?_)
                  · refine wp_iinc dX1_fewest_169 rfl (by decide) ?_
                    refine wp_goto 40 dX1_fewest_172 (by decide) ?_
                    refine wp_loc [(0, .ref (adr X 36)), (1, .ref (adr X (hR h 0 6))), (2, .int (iI v)), (3, .int (iI _)), (4, .int (iI (gN (sG σ) 0))), (5, .int (iI (gN (sG σ) 1))), (6, .int (iI a1)), (7, .int (iI (b1 + 1)))] ⟨rfl, rfl, rfl, rfl, rfl, rfl, rfl, rfl, trivial⟩ ?_
                    exact ihi (b1 + 1) h2 st (by omega) (by omega) fi (by rw [if_neg (fun q => q.2 (by assumption))] at hU; exact hU)
                  · have ua := iabs_b (n := 9) (x := a1) (by omega)
                    have ub := iabs_b (n := 9) (x := b1) (by omega)
                    refine wp_iload dX1_fewest_92 rfl ?_
                    refine wp_callSp dX1_fewest_94 mlX1_63 msJ9_abs_0f7a4 (S_J9_abs_0f7a4 (by unfold InR; omega)) rfl rfl (by decide) (by decide) (Nat.le_of_ble_eq_true rfl) ?_
                    refine wp_iload dX1_fewest_97 rfl ?_
                    refine wp_callSp dX1_fewest_99 mlX1_63 msJ9_abs_0f7a4 (S_J9_abs_0f7a4 (by unfold InR; omega)) rfl rfl (by decide) (by decide) (Nat.le_of_ble_eq_true rfl) ?_
                    refine wp_iadd dX1_fewest_102 ?_
                    refine wp_aload_n dX1_fewest_103 rfl ?_
                    refine wp_getC dX1_fewest_104 flX1_11 rfl rfl ?_
                    refine wp_iload dX1_fewest_107 rfl ?_
                    refine wp_iald dX1_fewest_109 (by first | rfl | exact gs1 hG | exact gs2 hG | exact gs3 hG | exact gs4 hG | exact ws1 hW | exact ws2 hW | assumption) (by omega) (by omega) ?_
                    rw [w1]
                    refine wp_iadd dX1_fewest_110 ?_
                    refine wp_istore dX1_fewest_111 (by decide) ?_
                    refine wp_iload_n dX1_fewest_113 rfl ?_
                    refine wp_iconst dX1_fewest_114 ?_
                    refine wp_icmpeq 124 dX1_fewest_115 (by decide) (by unfold InR; omega) (by unfold InR; omega) (fun c115 => ?_) (fun c115 => ?_)
                    · refine wp_iload dX1_fewest_124 rfl ?_
                      refine wp_istore_n dX1_fewest_126 (by decide) ?_
                      have q := w3 (by assumption)
                      refine wp_aload_n dX1_fewest_127 rfl ?_
                      refine wp_getC dX1_fewest_128 flX1_32 rfl rfl ?_
                      refine wp_iconst dX1_fewest_131 ?_
                      refine wp_iload dX1_fewest_132 rfl ?_
                      refine wp_iast dX1_fewest_134 (by first | rfl | exact gs1 hG | exact gs2 hG | exact gs3 hG | exact gs4 hG | exact ws1 hW | exact ws2 hW | assumption) (by omega) (by omega) ?_
                      refine wp_aload_n dX1_fewest_135 rfl ?_
                      refine wp_getC dX1_fewest_136 flX1_32 rfl rfl ?_
                      refine wp_iconst dX1_fewest_139 ?_
                      refine wp_iload dX1_fewest_140 rfl ?_
                      refine wp_iast dX1_fewest_142 (by first | rfl | exact gs1 hG | exact gs2 hG | exact gs3 hG | exact gs4 hG | exact ws1 hW | exact ws2 hW | assumption) (by omega) (by omega) ?_
                      refine wp_aload_n dX1_fewest_143 rfl ?_
                      refine wp_getC dX1_fewest_144 flX1_32 rfl rfl ?_
                      refine wp_iconst dX1_fewest_147 ?_
                      refine wp_aload_n dX1_fewest_148 rfl ?_
                      refine wp_getC dX1_fewest_149 flX1_15 rfl rfl ?_
                      refine wp_iload dX1_fewest_152 rfl ?_
                      refine wp_iald dX1_fewest_154 rfl (by omega) (by omega) ?_
                      rw [hI_sI, if_neg (by omega), hI_sI, if_neg (by omega), q.1]
                      refine wp_iast dX1_fewest_155 (by first | rfl | exact gs1 hG | exact gs2 hG | exact gs3 hG | exact gs4 hG | exact ws1 hW | exact ws2 hW | assumption) (by omega) (by omega) ?_
                      refine wp_aload_n dX1_fewest_156 rfl ?_
                      refine wp_getC dX1_fewest_157 flX1_32 rfl rfl ?_
                      refine wp_iconst dX1_fewest_160 ?_
                      refine wp_aload_n dX1_fewest_161 rfl ?_
                      refine wp_getC dX1_fewest_162 flX1_18 rfl rfl ?_
                      refine wp_iload dX1_fewest_165 rfl ?_
                      refine wp_iald dX1_fewest_167 rfl (by omega) (by omega) ?_
                      rw [hI_sI, if_neg (by omega), hI_sI, if_neg (by omega), hI_sI, if_neg (by omega), q.2]
                      refine wp_iast dX1_fewest_168 rfl (by omega) (by omega) ?_
                      rw [show sI (sI (sI (sI h2 41 (0 : Int).toNat a1) 41 (1 : Int).toNat b1) 41 (2 : Int).toNat (tab (gT (sG σ)) (gN (sG σ)) s).2.1) 41 (3 : Int).toNat (tab (gT (sG σ)) (gN (sG σ)) s).2.2.1 = ntH h2 a1 b1 (tab (gT (sG σ)) (gN (sG σ)) s).2.1 (tab (gT (sG σ)) (gN (sG σ)) s).2.2.1 from rfl]
                      refine wp_iinc dX1_fewest_169 rfl (by decide) ?_
                      refine wp_goto 40 dX1_fewest_172 (by decide) ?_
                      refine wp_loc [(0, .ref (adr X 36)), (1, .ref (adr X (hR h 0 6))), (2, .int (iI v)), (3, .int (iI _)), (4, .int (iI (gN (sG σ) 0))), (5, .int (iI (gN (sG σ) 1))), (6, .int (iI a1)), (7, .int (iI (b1 + 1)))] ⟨rfl, rfl, rfl, rfl, rfl, rfl, rfl, rfl, trivial⟩ ?_
                      exact ihi (b1 + 1) (ntH h2 a1 b1 (tab (gT (sG σ)) (gN (sG σ)) s).2.1 (tab (gT (sG σ)) (gN (sG σ)) s).2.2.1) (iabs a1 + iabs b1 + (tab (gT (sG σ)) (gN (sG σ)) s).1, a1, b1, (tab (gT (sG σ)) (gN (sG σ)) s).2.1, (tab (gT (sG σ)) (gN (sG σ)) s).2.2.1) (by omega) (by omega) ⟨a.off o ntH_off, sameM_tr fi.2.1 ntH_off.M, by rw [ntH_I (by decide)]; exact fi.2.2.1, fi.2.2.2.1, ntH_n, by dsimp only; omega, by dsimp only; omega⟩ (by rw [if_pos ⟨hin, by assumption⟩, if_pos (by omega)] at hU; exact hU)
                    · refine wp_iload dX1_fewest_118 rfl ?_
                      refine wp_iload_n dX1_fewest_120 rfl ?_
                      refine wp_icmpge 169 dX1_fewest_121 (by decide) (by unfold InR; omega) (by unfold InR; omega) (fun c121 => ?_) (fun c121 => ?_)
                      · refine wp_iinc dX1_fewest_169 rfl (by decide) ?_
                        refine wp_goto 40 dX1_fewest_172 (by decide) ?_
                        refine wp_loc [(0, .ref (adr X 36)), (1, .ref (adr X (hR h 0 6))), (2, .int (iI v)), (3, .int (iI _)), (4, .int (iI (gN (sG σ) 0))), (5, .int (iI (gN (sG σ) 1))), (6, .int (iI a1)), (7, .int (iI (b1 + 1)))] ⟨rfl, rfl, rfl, rfl, rfl, rfl, rfl, rfl, trivial⟩ ?_
                        exact ihi (b1 + 1) h2 st (by omega) (by omega) fi (by rw [if_pos ⟨hin, by assumption⟩, if_neg (by omega)] at hU; exact hU)
                      · refine wp_iload dX1_fewest_124 rfl ?_
                        refine wp_istore_n dX1_fewest_126 (by decide) ?_
                        have q := w3 (by assumption)
                        refine wp_aload_n dX1_fewest_127 rfl ?_
                        refine wp_getC dX1_fewest_128 flX1_32 rfl rfl ?_
                        refine wp_iconst dX1_fewest_131 ?_
                        refine wp_iload dX1_fewest_132 rfl ?_
                        refine wp_iast dX1_fewest_134 (by first | rfl | exact gs1 hG | exact gs2 hG | exact gs3 hG | exact gs4 hG | exact ws1 hW | exact ws2 hW | assumption) (by omega) (by omega) ?_
                        refine wp_aload_n dX1_fewest_135 rfl ?_
                        refine wp_getC dX1_fewest_136 flX1_32 rfl rfl ?_
                        refine wp_iconst dX1_fewest_139 ?_
                        refine wp_iload dX1_fewest_140 rfl ?_
                        refine wp_iast dX1_fewest_142 (by first | rfl | exact gs1 hG | exact gs2 hG | exact gs3 hG | exact gs4 hG | exact ws1 hW | exact ws2 hW | assumption) (by omega) (by omega) ?_
                        refine wp_aload_n dX1_fewest_143 rfl ?_
                        refine wp_getC dX1_fewest_144 flX1_32 rfl rfl ?_
                        refine wp_iconst dX1_fewest_147 ?_
                        refine wp_aload_n dX1_fewest_148 rfl ?_
                        refine wp_getC dX1_fewest_149 flX1_15 rfl rfl ?_
                        refine wp_iload dX1_fewest_152 rfl ?_
                        refine wp_iald dX1_fewest_154 rfl (by omega) (by omega) ?_
                        rw [hI_sI, if_neg (by omega), hI_sI, if_neg (by omega), q.1]
                        refine wp_iast dX1_fewest_155 (by first | rfl | exact gs1 hG | exact gs2 hG | exact gs3 hG | exact gs4 hG | exact ws1 hW | exact ws2 hW | assumption) (by omega) (by omega) ?_
                        refine wp_aload_n dX1_fewest_156 rfl ?_
                        refine wp_getC dX1_fewest_157 flX1_32 rfl rfl ?_
                        refine wp_iconst dX1_fewest_160 ?_
                        refine wp_aload_n dX1_fewest_161 rfl ?_
                        refine wp_getC dX1_fewest_162 flX1_18 rfl rfl ?_
                        refine wp_iload dX1_fewest_165 rfl ?_
                        refine wp_iald dX1_fewest_167 rfl (by omega) (by omega) ?_
                        rw [hI_sI, if_neg (by omega), hI_sI, if_neg (by omega), hI_sI, if_neg (by omega), q.2]
                        refine wp_iast dX1_fewest_168 rfl (by omega) (by omega) ?_
                        rw [show sI (sI (sI (sI h2 41 (0 : Int).toNat a1) 41 (1 : Int).toNat b1) 41 (2 : Int).toNat (tab (gT (sG σ)) (gN (sG σ)) s).2.1) 41 (3 : Int).toNat (tab (gT (sG σ)) (gN (sG σ)) s).2.2.1 = ntH h2 a1 b1 (tab (gT (sG σ)) (gN (sG σ)) s).2.1 (tab (gT (sG σ)) (gN (sG σ)) s).2.2.1 from rfl]
                        refine wp_iinc dX1_fewest_169 rfl (by decide) ?_
                        refine wp_goto 40 dX1_fewest_172 (by decide) ?_
                        refine wp_loc [(0, .ref (adr X 36)), (1, .ref (adr X (hR h 0 6))), (2, .int (iI v)), (3, .int (iI _)), (4, .int (iI (gN (sG σ) 0))), (5, .int (iI (gN (sG σ) 1))), (6, .int (iI a1)), (7, .int (iI (b1 + 1)))] ⟨rfl, rfl, rfl, rfl, rfl, rfl, rfl, rfl, trivial⟩ ?_
                        exact ihi (b1 + 1) (ntH h2 a1 b1 (tab (gT (sG σ)) (gN (sG σ)) s).2.1 (tab (gT (sG σ)) (gN (sG σ)) s).2.2.1) (iabs a1 + iabs b1 + (tab (gT (sG σ)) (gN (sG σ)) s).1, a1, b1, (tab (gT (sG σ)) (gN (sG σ)) s).2.1, (tab (gT (sG σ)) (gN (sG σ)) s).2.2.1) (by omega) (by omega) ⟨a.off o ntH_off, sameM_tr fi.2.1 ntH_off.M, by rw [ntH_I (by decide)]; exact fi.2.2.1, fi.2.2.2.1, ntH_n, by dsimp only; omega, by dsimp only; omega⟩ (by rw [if_pos ⟨hin, by assumption⟩, if_pos (by omega)] at hU; exact hU)
              · rw [if_neg hin]
                rw [if_neg (fun q => hin q.1)] at hU
                refine wp_istore dX1_fewest_73 (by decide) ?_
                refine wp_iload dX1_fewest_75 rfl ?_
                refine wp_iconst dX1_fewest_77 ?_
                refine wp_icmpeq 169 dX1_fewest_78 (by decide) (by unfold InR; omega) (by unfold InR; omega) (fun c78 => ?_) (fun c78 => ?_)
                · refine wp_iinc dX1_fewest_169 rfl (by decide) ?_
                  refine wp_goto 40 dX1_fewest_172 (by decide) ?_
                  refine wp_loc [(0, .ref (adr X 36)), (1, .ref (adr X (hR h 0 6))), (2, .int (iI v)), (3, .int (iI _)), (4, .int (iI (gN (sG σ) 0))), (5, .int (iI (gN (sG σ) 1))), (6, .int (iI a1)), (7, .int (iI (b1 + 1)))] ⟨rfl, rfl, rfl, rfl, rfl, rfl, rfl, rfl, trivial⟩ ?_
                  exact ihi (b1 + 1) h2 st (by omega) (by omega) fi hU
                · exact absurd rfl c78
        refine wp_loc [(0, .ref (adr X 36)), (1, .ref (adr X (hR h 0 6))), (2, .int (iI v)), (3, .int (iI st.1)), (4, .int (iI (gN (sG σ) 0))), (5, .int (iI (gN (sG σ) 1))), (6, .int (iI a1)), (7, .int (iI (-gN (sG σ) 1)))] ⟨rfl, rfl, rfl, rfl, rfl, rfl, rfl, rfl, trivial⟩ ?_
        exact Li (2 * gN (sG σ) 1 + 1).toNat (-gN (sG σ) 1) h2 st (by omega) (by omega) fi hUd.symm
  refine wp_loc [(0, .ref (adr X 36)), (1, .ref (adr X (hR h 0 6))), (2, .int (iI v)), (3, .int (iI (-1))), (4, .int (iI (gN (sG σ) 0))), (5, .int (iI (gN (sG σ) 1))), (6, .int (iI (-gN (sG σ) 0)))] ⟨rfl, rfl, rfl, rfl, rfl, rfl, rfl, trivial⟩ ?_
  exact L (2 * gN (sG σ) 0 + 1).toNat (-gN (sG σ) 0) h2 (-1, 0, 0, 0, 0) (by omega) (by omega) ⟨a, s1, hb1, hr1, fun q => absurd rfl q, by decide, by decide⟩ rfl

