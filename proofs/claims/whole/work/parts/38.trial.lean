/-! draws; TRIAL -/
def dval (x : Int64) (m : Int) (i : Nat) : Int := drw (xk x (i + 1)) m
/-- k draws behind x laid into cell b -/
def drK (h : Hp) (b : Nat) (x : Int64) (m : Int) (k : Nat) : Hp := sL (sA h b (fun i => if i < k then dval x m i else hI h b i)) 44 0 (xk x k)
theorem drK_I {h : Hp} {b : Nat} {x : Int64} {m : Int} {k c j : Nat} (h1 : c ≠ b) : hI (drK h b x m k) c j = hI h c j := by
  unfold drK
  rw [hI_sL, hI_sA, if_neg h1]
theorem drK_R {h : Hp} {b : Nat} {x : Int64} {m : Int} {k c j : Nat} : hR (drK h b x m k) c j = hR h c j := rfl
theorem sL_sA (h : Hp) (a j b i : Nat) (v : Int64) (w : Int) : sI (sL h a j v) b i w = sL (sI h b i w) a j v := rfl
theorem sL_sL (h : Hp) (a j : Nat) (v w : Int64) : sL (sL h a j v) a j w = sL h a j w := by
  unfold sL
  refine Prod.ext rfl (Prod.ext ?_ rfl)
  funext b k
  show up2 (up2 h.2.1 a j v) a j w b k = up2 h.2.1 a j w b k
  unfold up2
  split <;> rfl
theorem drK_s {h : Hp} {b : Nat} {x : Int64} {m : Int} {k : Nat} : sI (sL (drK h b x m k) 44 0 (nxX (xk x k))) b k (dval x m k) = drK h b x m (k + 1) := by
  unfold drK
  rw [sL_sL, sL_sA, sI_sA]
  congr 1
  refine sA_congr (fun i => ?_)
  by_cases hi : i = k
  · subst hi; rw [if_pos rfl, if_pos (by omega)]
  · rw [if_neg hi]
    by_cases h2 : i < k
    · rw [if_pos h2, if_pos (by omega)]
    · rw [if_neg h2, if_neg (by omega)]
theorem drK_0 {h : Hp} {b : Nat} {x : Int64} {m : Int} (hx : hL h 44 0 = x) : drK h b x m 0 = h := by
  unfold drK
  rw [sI_same (fun i => if_neg (by omega))]
  refine Prod.ext rfl (Prod.ext ?_ rfl)
  funext c k
  show up2 h.2.1 44 0 x c k = h.2.1 c k
  unfold up2
  split
  · rename_i q; rw [q.1, q.2]; exact hx.symm
  · rfl
theorem dval_b (x : Int64) {m : Int} (h : 0 < m) (i : Nat) : 0 ≤ dval x m i ∧ dval x m i < m := drw_b _ h

set_option maxRecDepth 20000 in
theorem S_X2_draw {X : Cx} {h : Hp} {m : Int} (hm : 1 ≤ m ∧ m ≤ 100) : Spec X mX2_draw 0 [.ref (adr X 44), .int (iI m)] h (fun rv h' => rv = some (.int (iI (drw (nxX (hL h 44 0)) m))) ∧ h' = sL h 44 0 (nxX (hL h 44 0))) := by
  refine spec_wp (Nat.le_of_ble_eq_true rfl) (by decide +kernel) ?_
  refine wp_loc [(0, .ref (adr X 44)), (1, .int (iI m))] ⟨rfl, rfl, trivial⟩ ?_
  refine wp_aload_n dX2_draw_0 rfl ?_
  refine wp_aload_n dX2_draw_1 rfl ?_
  refine wp_getL dX2_draw_2 flX2_7 rfl rfl ?_
  refine wp_ldc2 (v := 6364136223846793005) dX2_draw_5 klX2_13 ?_
  refine wp_lmul dX2_draw_8 ?_
  refine wp_ldc2 (v := 1442695040888963407) dX2_draw_9 klX2_15 ?_
  refine wp_ladd dX2_draw_12 ?_
  refine wp_putL dX2_draw_13 plX2_7 rfl rfl ?_
  refine wp_iload_n dX2_draw_16 rfl ?_
  refine wp_ifle 34 dX2_draw_17 (by decide) (by unfold InR; omega) (fun c17 => ?_) (fun c17 => ?_)
  · exact absurd c17 (by omega)
  · refine wp_aload_n dX2_draw_20 rfl ?_
    refine wp_getL dX2_draw_21 flX2_7 rfl rfl ?_
    refine wp_bipush dX2_draw_24 rfl ?_
    refine wp_lushr dX2_draw_26 ?_
    refine wp_iload_n dX2_draw_27 rfl ?_
    refine wp_i2l dX2_draw_28 ?_
    refine wp_lrem dX2_draw_29 (fun q => by rw [i2l_I (show InR m by unfold InR; omega)] at q; have := (lI_eq (a := m) (b := 0) ⟨by omega, by omega⟩ ⟨by omega, by omega⟩).mp q; omega) ?_
    refine wp_l2i dX2_draw_30 ?_
    refine wp_goto 35 dX2_draw_31 (by decide) ?_
    exact wp_iret dX2_draw_35 rfl (⟨by rw [hL_sL, if_pos ⟨rfl, rfl⟩]; exact congrArg (fun z => some (Value.int z)) (drw_v _ (by omega)), rfl⟩)

set_option maxRecDepth 20000 in
theorem S_X10_drawInto {X : Cx} {h : Hp} {b : Nat} {m : Int} (g : GB h (hR h 0 6)) (hb : shp[b]? = some (.inl (0, 24))) (hb1 : b ≠ 20 ∧ b ≠ 25) (hm : 0 ≤ m ∧ m ≤ 99) : Spec X mX10_drawInto 3 [.ref (adr X 0), .ref (adr X b), .int (iI m)] h (fun rv h' => rv = none ∧ h' = drK h b (hL h 44 0) (m + 1) (hI h (hR h 0 6) 4).toNat) := by
  have g1 := g.2.1
  have g2 := g.2.2.1
  refine spec_wp (Nat.le_of_ble_eq_true rfl) (by decide +kernel) ?_
  refine wp_loc [(0, .ref (adr X 0)), (1, .ref (adr X b)), (2, .int (iI m))] ⟨rfl, rfl, rfl, trivial⟩ ?_
  have L : ∀ (n : Nat) (k : Nat), ((k : Int) + n = hI h (hR h 0 6) 4) → WP X mX10_drawInto 3 2 [(0, .ref (adr X 0)), (1, .ref (adr X b)), (2, .int (iI m)), (3, .int (iI k))] [] (drK h b (hL h 44 0) (m + 1) k) (fun rv h' => rv = none ∧ h' = drK h b (hL h 44 0) (m + 1) (hI h (hR h 0 6) 4).toNat) := by
    intro n
    induction n with
    | zero =>
      intro k hn
      have hG := g.1
      have gg : hR h 0 6 = 20 ∨ hR h 0 6 = 25 := hG
      have k4 : hI (drK h b (hL h 44 0) (m + 1) k) (hR (drK h b (hL h 44 0) (m + 1) k) 0 6) 4 = hI h (hR h 0 6) 4 := drK_I (by show hR h 0 6 ≠ b; omega)
      refine wp_iload_n dX10_drawInto_2 rfl ?_
      refine wp_aload_n dX10_drawInto_3 rfl ?_
      refine wp_getM dX10_drawInto_4 flX10_46 rfl rfl ?_
      refine wp_getI dX10_drawInto_7 flX10_137 (gs0 hG) rfl ?_
      refine wp_icmpge 38 dX10_drawInto_10 (by decide) (by unfold InR; omega) (by unfold InR; omega) (fun c10 => ?_) (fun c10 => ?_)
      · exact wp_ret dX10_drawInto_38 rfl (⟨rfl, by rw [show (hI h (hR h 0 6) 4).toNat = k by omega]⟩)
      · exact absurd c10 (by omega)
    | succ n ih =>
      intro k hn
      have hG := g.1
      have gg : hR h 0 6 = 20 ∨ hR h 0 6 = 25 := hG
      have k4 : hI (drK h b (hL h 44 0) (m + 1) k) (hR (drK h b (hL h 44 0) (m + 1) k) 0 6) 4 = hI h (hR h 0 6) 4 := drK_I (by show hR h 0 6 ≠ b; omega)
      refine wp_iload_n dX10_drawInto_2 rfl ?_
      refine wp_aload_n dX10_drawInto_3 rfl ?_
      refine wp_getM dX10_drawInto_4 flX10_46 rfl rfl ?_
      refine wp_getI dX10_drawInto_7 flX10_137 (gs0 hG) rfl ?_
      refine wp_icmpge 38 dX10_drawInto_10 (by decide) (by unfold InR; omega) (by unfold InR; omega) (fun c10 => ?_) (fun c10 => ?_)
      · exact absurd c10 (by omega)
      · refine wp_iload_n dX10_drawInto_13 rfl ?_
        refine wp_aload_n dX10_drawInto_14 rfl ?_
        refine wp_alen dX10_drawInto_15 hb (by decide) ?_
        refine wp_icmpge 38 dX10_drawInto_16 (by decide) (by unfold InR; omega) (by unfold InR; omega) (fun c16 => ?_) (fun c16 => ?_)
        · exact absurd c16 (by omega)
        · refine wp_aload_n dX10_drawInto_19 rfl ?_
          refine wp_iload_n dX10_drawInto_20 rfl ?_
          refine wp_aload_n dX10_drawInto_21 rfl ?_
          refine wp_getC dX10_drawInto_22 flX10_92 rfl rfl ?_
          refine wp_iload_n dX10_drawInto_25 rfl ?_
          refine wp_iconst dX10_drawInto_26 ?_
          refine wp_iadd dX10_drawInto_27 ?_
          refine wp_callV dX10_drawInto_28 mlX10_341 mvX2_draw (S_X2_draw (by omega)) rfl rfl (by decide) (by decide) rfl rfl rfl (Nat.le_of_ble_eq_true rfl) ?_
          rintro rv h2 ⟨rfl, rfl⟩
          refine wp_iast dX10_drawInto_31 hb (by omega) (by omega) ?_
          rw [show hL (drK h b (hL h 44 0) (m + 1) k) 44 0 = xk (hL h 44 0) k from by unfold drK; rw [hL_sL, if_pos ⟨rfl, rfl⟩], show drw (nxX (xk (hL h 44 0) k)) (m + 1) = dval (hL h 44 0) (m + 1) k from rfl, show ((k : Nat) : Int).toNat = k by omega, drK_s]
          refine wp_iinc dX10_drawInto_32 rfl (by decide) ?_
          refine wp_goto 2 dX10_drawInto_35 (by decide) ?_
          refine wp_loc [(0, .ref (adr X 0)), (1, .ref (adr X b)), (2, .int (iI m)), (3, .int (iI ((k + 1 : Nat) : Int)))] ⟨rfl, rfl, rfl, rfl, trivial⟩ ?_
          exact ih (k + 1) (by omega)
  have e0 : drK h b (hL h 44 0) (m + 1) 0 = h := drK_0 rfl
  refine wp_iconst dX10_drawInto_0 ?_
  refine wp_istore_n dX10_drawInto_1 (by decide) ?_
  refine wp_loc [(0, .ref (adr X 0)), (1, .ref (adr X b)), (2, .int (iI m)), (3, .int (iI ((0 : Nat) : Int)))] ⟨rfl, rfl, rfl, rfl, trivial⟩ ?_
  have q := L (hI h (hR h 0 6) 4).toNat 0 (by omega)
  rw [e0] at q
  exact q

def gapD (G : Gdn) (x : Int64) (m p : Int) : Int := ggap (fun i => dval x m i.toNat) (gP G) (gA G) p - lnF G
def trF (G : Gdn) (m sp : Int) : Nat → Int64 → Int → Int
  | 0, _, c => c
  | n + 1, x, c => trF G m sp n (xk x (gP G).toNat) (if fwF (gapD G x m) (gP G) 0 sp (min (sp + 1) (gP G)).toNat 0 = -1 then c else c + 1)
def qTrial (σ : Sg) (n : Int) (x : Int64) (m sp : Int) : Int := if 0 < gP (sG σ) ∧ (1 ≤ n ∧ n ≤ 50) ∧ (0 ≤ m ∧ m ≤ 99) ∧ 0 ≤ sp ∧ sp ≤ gP (sG σ) then trF (sG σ) (m + 1) sp n.toNat x 0 else -1
theorem drK_off {h : Hp} {x : Int64} {m : Int} {k : Nat} : OffS h (drK h 45 x m k) := (OffS.sA (Or.inr (by decide))).tr (OffS.sL (Or.inr (by decide)))
theorem layK_hL {h : Hp} {a b : Nat} {A k : Int} {c j : Nat} : hL (layK h a b A k) c j = hL h c j := rfl

set_option maxRecDepth 20000 in
theorem S_X10_trial {X : Cx} {h : Hp} {σ : Sg} (a : AC h σ) (o : SOK σ) {n0 : Int} {x : Int64} {m sp : Int} (hn0 : InR n0) (hm0 : InR m) (hsp0 : InR sp) : Spec X mX10_trial 30 [.ref (adr X 0), .int (iI n0), .long x, .int (iI m), .int (iI sp)] h (fun rv h' => rv = some (.int (iI (qTrial σ n0 x m sp))) ∧ AC h' σ ∧ sameM h h') := by
  have g := a.gb o
  have hG := g.1
  have gk := o.2.2.2.1
  have gb := gk.b
  have gkb := gk.2.1
  have e4 : hI h (hR h 0 6) 4 = gP (sG σ) := a.2.2.2.2.1.1
  have e5 : hI h (hR h 0 6) 5 = gA (sG σ) := a.2.2.2.2.1.2.1
  have e6 : hI h (hR h 0 6) 6 = gK (sG σ) := a.2.2.2.2.1.2.2.1
  have he : hI h (hR h 0 6) 4 % 2 = 0 := by omega
  refine spec_wp (Nat.le_of_ble_eq_true rfl) (by decide +kernel) ?_
  refine wp_loc [(0, .ref (adr X 0)), (1, .int (iI n0)), (2, .long x), (4, .int (iI m)), (5, .int (iI sp))] ⟨rfl, rfl, rfl, rfl, rfl, trivial⟩ ?_
  refine wp_aload_n dX10_trial_0 rfl ?_
  refine wp_callVp dX10_trial_1 mlX10_148 mvX10_noGarden (S_X10_noGarden g) rfl rfl (by decide) (by decide) rfl rfl rfl (Nat.le_of_ble_eq_true rfl) ?_
  refine wp_ifneb 43 dX10_trial_4 (by decide) (fun c4 => ?_) (fun c4 => ?_)
  · refine wp_iconst dX10_trial_43 ?_
    exact wp_iret dX10_trial_44 rfl (⟨vi (by unfold qTrial; rw [if_neg (by omega)]), a, sameM_rf h⟩)
  · refine wp_iload_n dX10_trial_7 rfl ?_
    refine wp_iconst dX10_trial_8 ?_
    refine wp_icmplt 43 dX10_trial_9 (by decide) (by first | assumption | (unfold InR; omega)) (by first | assumption | (unfold InR; omega)) (fun c9 => ?_) (fun c9 => ?_)
    · refine wp_iconst dX10_trial_43 ?_
      exact wp_iret dX10_trial_44 rfl (⟨vi (by unfold qTrial; rw [if_neg (by omega)]), a, sameM_rf h⟩)
    · refine wp_iload_n dX10_trial_12 rfl ?_
      refine wp_bipush dX10_trial_13 rfl ?_
      refine wp_icmpgt 43 dX10_trial_15 (by decide) (by first | assumption | (unfold InR; omega)) (by first | assumption | (unfold InR; omega)) (fun c15 => ?_) (fun c15 => ?_)
      · refine wp_iconst dX10_trial_43 ?_
        exact wp_iret dX10_trial_44 rfl (⟨vi (by unfold qTrial; rw [if_neg (by omega)]), a, sameM_rf h⟩)
      · refine wp_iload dX10_trial_18 rfl ?_
        refine wp_callSp dX10_trial_20 mlX10_253 msX10_isTold (S_X10_isTold (by first | assumption | (unfold InR; omega))) rfl rfl (by decide) (by decide) (Nat.le_of_ble_eq_true rfl) ?_
        refine wp_ifeqb 43 dX10_trial_23 (by decide) (fun c23 => ?_) (fun c23 => ?_)
        · refine wp_iconst dX10_trial_43 ?_
          exact wp_iret dX10_trial_44 rfl (⟨vi (by unfold qTrial; rw [if_neg (by omega)]), a, sameM_rf h⟩)
        · refine wp_iload dX10_trial_26 rfl ?_
          refine wp_iflt 43 dX10_trial_28 (by decide) (by first | assumption | (unfold InR; omega)) (fun c28 => ?_) (fun c28 => ?_)
          · refine wp_iconst dX10_trial_43 ?_
            exact wp_iret dX10_trial_44 rfl (⟨vi (by unfold qTrial; rw [if_neg (by omega)]), a, sameM_rf h⟩)
          · refine wp_iload dX10_trial_31 rfl ?_
            refine wp_aload_n dX10_trial_33 rfl ?_
            refine wp_getM dX10_trial_34 flX10_46 rfl rfl ?_
            refine wp_getI dX10_trial_37 flX10_137 (gs0 hG) rfl ?_
            refine wp_icmple 45 dX10_trial_40 (by decide) (by first | assumption | (unfold InR; omega)) (by first | assumption | (unfold InR; omega)) (fun c40 => ?_) (fun c40 => ?_)
            · refine wp_aload_n dX10_trial_45 rfl ?_
              refine wp_getC dX10_trial_46 flX10_92 rfl rfl ?_
              refine wp_lload_n dX10_trial_49 rfl ?_
              refine wp_putL dX10_trial_50 plX10_334 rfl rfl ?_
              have of1 : OffS h (sL h 44 0 x) := OffS.sL (Or.inr (by decide))
              have a := a.off o of1
              have s1 := of1.M
              have hx1 : hL (sL h 44 0 x) 44 0 = x := by rw [hL_sL, if_pos ⟨rfl, rfl⟩]
              generalize sL h 44 0 x = h0 at a s1 hx1 ⊢
              refine wp_iconst dX10_trial_53 ?_
              refine wp_istore dX10_trial_54 (by decide) ?_
              refine wp_iconst dX10_trial_56 ?_
              refine wp_istore dX10_trial_57 (by decide) ?_
              obtain ⟨V, hV0⟩ : ∃ V : Int, V = qTrial σ n0 x m sp := ⟨_, rfl⟩
              rw [← hV0]
              unfold qTrial at hV0
              rw [if_pos (by omega)] at hV0
              have L : ∀ (n : Nat) (k c : Int) (h1 : Hp), (k + n = n0) → (0 ≤ k ∧ 0 ≤ c ∧ c ≤ k) → (AC h1 σ) → (sameM h h1) → (V = trF (sG σ) (m + 1) sp n (hL h1 44 0) c) → WP X mX10_trial 30 59 [(0, .ref (adr X 0)), (1, .int (iI n0)), (4, .int (iI m)), (5, .int (iI sp)), (6, .int (iI c)), (7, .int (iI k))] [] h1 (fun rv h' => rv = some (.int (iI V)) ∧ AC h' σ ∧ sameM h h') := by
                intro n
                induction n with
                | zero =>
                  intro k c h1 hn hk a s1 hV
                  have g := a.gb o
                  have hG := g.1
                  have gk := o.2.2.2.1
                  have gb := gk.b
                  have gkb := gk.2.1
                  have e4 : hI h1 (hR h1 0 6) 4 = gP (sG σ) := a.2.2.2.2.1.1
                  have e5 : hI h1 (hR h1 0 6) 5 = gA (sG σ) := a.2.2.2.2.1.2.1
                  have e6 : hI h1 (hR h1 0 6) 6 = gK (sG σ) := a.2.2.2.2.1.2.2.1
                  have he : hI h1 (hR h1 0 6) 4 % 2 = 0 := by omega
                  refine wp_iload dX10_trial_59 rfl ?_
                  refine wp_iload_n dX10_trial_61 rfl ?_
                  refine wp_icmpge 120 dX10_trial_62 (by decide) (by first | assumption | (unfold InR; omega)) (by first | assumption | (unfold InR; omega)) (fun c62 => ?_) (fun c62 => ?_)
                  · refine wp_iload dX10_trial_120 rfl ?_
                    exact wp_iret dX10_trial_122 rfl (⟨vi (by rw [hV]; rfl), a, s1⟩)
                  · exact absurd c62 (by omega)
                | succ n ih =>
                  intro k c h1 hn hk a s1 hV
                  have g := a.gb o
                  have hG := g.1
                  have gk := o.2.2.2.1
                  have gb := gk.b
                  have gkb := gk.2.1
                  have e4 : hI h1 (hR h1 0 6) 4 = gP (sG σ) := a.2.2.2.2.1.1
                  have e5 : hI h1 (hR h1 0 6) 5 = gA (sG σ) := a.2.2.2.2.1.2.1
                  have e6 : hI h1 (hR h1 0 6) 6 = gK (sG σ) := a.2.2.2.2.1.2.2.1
                  have he : hI h1 (hR h1 0 6) 4 % 2 = 0 := by omega
                  refine wp_iload dX10_trial_59 rfl ?_
                  refine wp_iload_n dX10_trial_61 rfl ?_
                  refine wp_icmpge 120 dX10_trial_62 (by decide) (by first | assumption | (unfold InR; omega)) (by first | assumption | (unfold InR; omega)) (fun c62 => ?_) (fun c62 => ?_)
                  · exact absurd c62 (by omega)
                  · refine wp_aload_n dX10_trial_65 rfl ?_
                    refine wp_aload_n dX10_trial_66 rfl ?_
                    refine wp_getC dX10_trial_67 flX10_96 rfl rfl ?_
                    refine wp_iload dX10_trial_70 rfl ?_
                    refine wp_callV dX10_trial_72 mlX10_338 mvX10_drawInto (S_X10_drawInto (b := 45) g rfl (by decide) (by omega)) rfl rfl (by decide) (by decide) rfl rfl rfl (Nat.le_of_ble_eq_true rfl) ?_
                    rintro rv h2 ⟨rfl, hh2⟩
                    have of2 : OffS h1 h2 := by rw [hh2]; exact drK_off
                    have e41 := e4
                    have a := a.off o of2
                    have s1 := sameM_tr s1 of2.M
                    have g := a.gb o
                    have hG := g.1
                    have gk := o.2.2.2.1
                    have gb := gk.b
                    have gkb := gk.2.1
                    have e4 : hI h2 (hR h2 0 6) 4 = gP (sG σ) := a.2.2.2.2.1.1
                    have e5 : hI h2 (hR h2 0 6) 5 = gA (sG σ) := a.2.2.2.2.1.2.1
                    have e6 : hI h2 (hR h2 0 6) 6 = gK (sG σ) := a.2.2.2.2.1.2.2.1
                    have he : hI h2 (hR h2 0 6) 4 % 2 = 0 := by omega
                    have hd : ∀ i : Nat, (i : Int) < hI h2 (hR h2 0 6) 4 → 0 ≤ hI h2 45 i ∧ hI h2 45 i ≤ 99 := fun i hi => by
                      have q := dval_b (hL h1 44 0) (m := m + 1) (by omega) i
                      rw [hh2]; unfold drK; rw [hI_sL, hI_sA, if_pos rfl, if_pos (by omega)]; omega
                    refine wp_aload_n dX10_trial_75 rfl ?_
                    refine wp_getC dX10_trial_76 flX10_85 rfl rfl ?_
                    refine wp_aload_n dX10_trial_79 rfl ?_
                    refine wp_getM dX10_trial_80 flX10_46 rfl rfl ?_
                    refine wp_aload_n dX10_trial_83 rfl ?_
                    refine wp_getC dX10_trial_84 flX10_96 rfl rfl ?_
                    refine wp_aload_n dX10_trial_87 rfl ?_
                    refine wp_getM dX10_trial_88 flX10_46 rfl rfl ?_
                    refine wp_getI dX10_trial_91 flX10_177 (gs0 hG) rfl ?_
                    refine wp_callV dX10_trial_94 mlX10_316 mvX6_lay (S_X6_lay g rfl (by decide) (by decide) he (by omega)) rfl rfl (by decide) (by decide) rfl rfl rfl (Nat.le_of_ble_eq_true rfl) ?_
                    rintro rv h3 ⟨rfl, rfl⟩
                    have r := layK_R g (b := 45) (A := hI h2 (hR h2 0 6) 5) hd he (by omega)
                    rw [e4, e5] at r
                    have hr : RND _ (gapD (sG σ) (hL h1 44 0) (m + 1)) (gP (sG σ)) := r.cg (fun p h0 h3 => by
                      unfold gapD
                      rw [a.lean]
                      congr 1
                      refine ggap_eq gb.2.2.1 (by omega) ⟨h0, h3⟩ (fun i i0 i1 => ?_)
                      show hI h2 45 i.toNat = _
                      rw [hh2]; unfold drK; rw [hI_sL, hI_sA, if_pos rfl, if_pos (by omega)])
                    rw [← e4, ← e5] at hr
                    obtain ⟨h3, hh3⟩ : ∃ h3, h3 = layK h2 (hR h2 0 6) 45 (hI h2 (hR h2 0 6) 5) (hI h2 (hR h2 0 6) 4) := ⟨_, rfl⟩
                    rw [e4, e5] at hr
                    rw [← e4, ← e5, ← hh3, e4] at hr
                    rw [← hh3]
                    have of3 : OffS h2 h3 := by rw [hh3]; exact layK_off
                    have a := a.off o of3
                    have s1 := sameM_tr s1 of3.M
                    have hx3 : hL h3 44 0 = xk (hL h1 44 0) (gP (sG σ)).toNat := by rw [hh3, layK_hL, hh2]; unfold drK; rw [hL_sL, if_pos ⟨rfl, rfl⟩, e41]
                    refine wp_aload_n dX10_trial_97 rfl ?_
                    refine wp_getC dX10_trial_98 flX10_85 rfl rfl ?_
                    refine wp_iconst dX10_trial_101 ?_
                    refine wp_iload dX10_trial_102 rfl ?_
                    refine wp_callVp dX10_trial_104 mlX10_230 mvX6_firstWithin (S_X6_firstWithin hr (by omega) (by omega)) rfl rfl (by decide) (by decide) rfl rfl rfl (Nat.le_of_ble_eq_true rfl) ?_
                    have fb := fwF_b (gapD (sG σ) (hL h1 44 0) (m + 1)) (gP (sG σ)) 0 sp (by omega) (min (sp + 1) (gP (sG σ))).toNat 0 (by omega) (by omega)
                    refine wp_iconst dX10_trial_107 ?_
                    refine wp_icmpeq 114 dX10_trial_108 (by decide) (by first | assumption | (unfold InR; omega)) (by first | assumption | (unfold InR; omega)) (fun c108 => ?_) (fun c108 => ?_)
                    · refine wp_iinc dX10_trial_114 rfl (by decide) ?_
                      refine wp_goto 59 dX10_trial_117 (by decide) ?_
                      refine wp_loc [(0, .ref (adr X 0)), (1, .int (iI n0)), (4, .int (iI m)), (5, .int (iI sp)), (6, .int (iI _)), (7, .int (iI (k + 1)))] ⟨rfl, rfl, rfl, rfl, rfl, rfl, trivial⟩ ?_
                      exact ih (k + 1) _ _ (by omega) (by omega) a s1 (by rw [hV, trF, hx3]; first | rw [if_pos (by assumption)] | rw [if_neg (by assumption)])
                    · refine wp_iinc dX10_trial_111 rfl (by decide) ?_
                      refine wp_iinc dX10_trial_114 rfl (by decide) ?_
                      refine wp_goto 59 dX10_trial_117 (by decide) ?_
                      refine wp_loc [(0, .ref (adr X 0)), (1, .int (iI n0)), (4, .int (iI m)), (5, .int (iI sp)), (6, .int (iI _)), (7, .int (iI (k + 1)))] ⟨rfl, rfl, rfl, rfl, rfl, rfl, trivial⟩ ?_
                      exact ih (k + 1) _ _ (by omega) (by omega) a s1 (by rw [hV, trF, hx3]; first | rw [if_pos (by assumption)] | rw [if_neg (by assumption)])
              refine wp_loc [(0, .ref (adr X 0)), (1, .int (iI n0)), (4, .int (iI m)), (5, .int (iI sp)), (6, .int (iI 0)), (7, .int (iI 0))] ⟨rfl, rfl, rfl, rfl, rfl, rfl, trivial⟩ ?_
              exact L n0.toNat 0 0 h0 (by omega) (by omega) a s1 (by rw [hV0, hx1])
            · refine wp_iconst dX10_trial_43 ?_
              exact wp_iret dX10_trial_44 rfl (⟨vi (by unfold qTrial; rw [if_neg (by omega)]), a, sameM_rf h⟩)

