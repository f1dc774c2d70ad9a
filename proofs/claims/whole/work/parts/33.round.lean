/-! the class: questions that lay the round -/
def layK (h : Hp) (a b : Nat) (A : Int) (k : Int) : Hp := sA (sI (sI h 42 1 (hI h a 4)) 42 2 (leanV h a)) 43 (fun i => if (i : Int) < k then ggap (fun j => hI h b j.toNat) (hI h a 4) A i else hI h 43 i)
theorem layK_I {h : Hp} {a b : Nat} {A k : Int} {c j : Nat} (h1 : c ≠ 42) (h2 : c ≠ 43) : hI (layK h a b A k) c j = hI h c j := by
  unfold layK
  rw [hI_sA, if_neg h2, hI_sI, if_neg (fun q => h1 q.1), hI_sI, if_neg (fun q => h1 q.1)]
theorem layK_P {h : Hp} {a b : Nat} {A k : Int} : hI (layK h a b A k) 42 1 = hI h a 4 := by
  unfold layK
  rw [hI_sA, if_neg (by decide), hI_sI, if_neg (by decide), hI_sI, if_pos ⟨rfl, rfl⟩]
theorem layK_L {h : Hp} {a b : Nat} {A k : Int} : hI (layK h a b A k) 42 2 = leanV h a := by
  unfold layK
  rw [hI_sA, if_neg (by decide), hI_sI, if_pos ⟨rfl, rfl⟩]
theorem layK_off {h : Hp} {a b : Nat} {A k : Int} : OffS h (layK h a b A k) := ((OffS.sI (Or.inr (by decide))).tr (OffS.sI (Or.inr (by decide)))).tr (OffS.sA (Or.inr (by decide)))
theorem layK_s {h : Hp} {a b : Nat} {A k : Int} (hk : 0 ≤ k) : sI (layK h a b A k) 43 k.toNat (ggap (fun j => hI h b j.toNat) (hI h a 4) A k) = layK h a b A (k + 1) := by
  unfold layK
  rw [sI_sA]
  refine sA_congr (fun i => ?_)
  by_cases hi : i = k.toNat
  · subst hi
    rw [if_pos rfl, if_pos (by omega), show ((k.toNat : Nat) : Int) = k by omega]
  · rw [if_neg hi]
    by_cases h2 : (i : Int) < k
    · rw [if_pos h2, if_pos (by omega)]
    · rw [if_neg h2, if_neg (by omega)]
theorem sI_same {h : Hp} {a : Nat} {f : Nat → Int} (e : ∀ i, f i = hI h a i) : sA h a f = h := by
  refine Prod.ext ?_ rfl
  funext b k
  show (if b = a then f else h.1 b) k = _
  by_cases hb : b = a
  · subst hb; rw [if_pos rfl, e]; rfl
  · rw [if_neg hb]

set_option maxRecDepth 20000 in
theorem S_X6_lay {X : Cx} {h : Hp} {a b : Nat} {A : Int} (g : GB h a) (hb : shp[b]? = some (.inl (0, 24))) (hb1 : b ≠ 42) (hb2 : b ≠ 43) (he : hI h a 4 % 2 = 0) (hA : 0 ≤ A ∧ A < hI h a 4) : Spec X mX6_lay 5 [.ref (adr X 42), .ref (adr X a), .ref (adr X b), .int (iI A)] h (fun rv h' => rv = none ∧ h' = layK h a b A (hI h a 4)) := by
  have hG := g.1
  have g1 := g.2.1
  have g2 := g.2.2.1
  have ga : 20 ≤ a ∧ a ≤ 25 := by rcases hG with q | q <;> omega
  refine spec_wp (Nat.le_of_ble_eq_true rfl) (by decide +kernel) ?_
  refine wp_loc [(0, .ref (adr X 42)), (1, .ref (adr X a)), (2, .ref (adr X b)), (3, .int (iI A))] ⟨rfl, rfl, rfl, rfl, trivial⟩ ?_
  have L : ∀ (n : Nat) (k : Int), (k + n = hI h a 4) → (0 ≤ k) → WP X mX6_lay 5 31 [(0, .ref (adr X 42)), (1, .ref (adr X a)), (2, .ref (adr X b)), (3, .int (iI A)), (4, .int (iI k))] [] (layK h a b A k) (fun rv h' => rv = none ∧ h' = layK h a b A (hI h a 4)) := by
    intro n
    induction n with
    | zero =>
      intro k hn hk
      have k1 := GB.keep (h' := layK h a b A k) g (fun c j q1 q2 => layK_I (by omega) (by omega))
      have hG := g.1
      have k4 : hI (layK h a b A k) a 4 = hI h a 4 := layK_I (by rcases hG with q | q <;> omega) (by rcases hG with q | q <;> omega)
      have kP : hI (layK h a b A k) 42 1 = hI h a 4 := layK_P
      refine wp_iload dX6_lay_31 rfl ?_
      refine wp_aload_n dX6_lay_33 rfl ?_
      refine wp_getI dX6_lay_34 flX6_15 rfl rfl ?_
      refine wp_icmpge 61 dX6_lay_37 (by decide) (by unfold InR; omega) (by unfold InR; omega) (fun c37 => ?_) (fun c37 => ?_)
      · exact wp_ret dX6_lay_61 rfl (⟨rfl, by rw [show hI h a 4 = k by omega]⟩)
      · exact absurd c37 (by omega)
    | succ n ih =>
      intro k hn hk
      have k1 := GB.keep (h' := layK h a b A k) g (fun c j q1 q2 => layK_I (by omega) (by omega))
      have hG := g.1
      have k4 : hI (layK h a b A k) a 4 = hI h a 4 := layK_I (by rcases hG with q | q <;> omega) (by rcases hG with q | q <;> omega)
      have kP : hI (layK h a b A k) 42 1 = hI h a 4 := layK_P
      refine wp_iload dX6_lay_31 rfl ?_
      refine wp_aload_n dX6_lay_33 rfl ?_
      refine wp_getI dX6_lay_34 flX6_15 rfl rfl ?_
      refine wp_icmpge 61 dX6_lay_37 (by decide) (by unfold InR; omega) (by unfold InR; omega) (fun c37 => ?_) (fun c37 => ?_)
      · exact absurd c37 (by omega)
      · refine wp_aload_n dX6_lay_40 rfl ?_
        refine wp_getC dX6_lay_41 flX6_9 rfl rfl ?_
        refine wp_iload dX6_lay_44 rfl ?_
        refine wp_aload_n dX6_lay_46 rfl ?_
        refine wp_aload_n dX6_lay_47 rfl ?_
        refine wp_iload_n dX6_lay_48 rfl ?_
        refine wp_iload dX6_lay_49 rfl ?_
        refine wp_callVp dX6_lay_51 mlX6_37 mvX3_groundGap (S_X3_groundGap k1 hb (by rw [k4]; exact he) (by rw [k4]; exact hA) (by rw [k4]; omega)) rfl rfl (by decide) (by decide) (gs0 hG) rfl rfl (Nat.le_of_ble_eq_true rfl) ?_
        refine wp_iast dX6_lay_54 rfl (by omega) (by omega) ?_
        rw [k4, show (fun i : Int => hI (layK h a b A k) b i.toNat) = fun i => hI h b i.toNat from funext fun i => layK_I hb1 hb2, layK_s hk]
        refine wp_iinc dX6_lay_55 rfl (by decide) ?_
        refine wp_goto 31 dX6_lay_58 (by decide) ?_
        refine wp_loc [(0, .ref (adr X 42)), (1, .ref (adr X a)), (2, .ref (adr X b)), (3, .int (iI A)), (4, .int (iI (k + 1)))] ⟨rfl, rfl, rfl, rfl, rfl, trivial⟩ ?_
        exact ih (k + 1) (by omega) (by omega)
  refine wp_aload_n dX6_lay_0 rfl ?_
  refine wp_iconst dX6_lay_1 ?_
  refine wp_aload_n dX6_lay_2 rfl ?_
  refine wp_getI dX6_lay_3 flX6_22 (gs0 hG) rfl ?_
  refine wp_aload_n dX6_lay_6 rfl ?_
  refine wp_getC dX6_lay_7 flX6_9 rfl rfl ?_
  refine wp_alen dX6_lay_10 (by first | rfl | exact gs1 hG | exact gs2 hG | exact gs3 hG | exact gs4 hG | exact ws1 hW | exact ws2 hW | assumption) (by decide) ?_
  refine wp_callSp dX6_lay_11 mlX6_25 msJ9_min_7cf53 (S_J9_min_7cf53 (by unfold InR; omega) (by unfold InR; omega)) rfl rfl (by decide) (by decide) (Nat.le_of_ble_eq_true rfl) ?_
  refine wp_callSp dX6_lay_14 mlX6_31 msJ9_max_7cf53 (S_J9_max_7cf53 (by unfold InR; omega) (by unfold InR; omega)) rfl rfl (by decide) (by decide) (Nat.le_of_ble_eq_true rfl) ?_
  rw [show max 0 (min (hI h a 4) ((24 : Nat) : Int)) = hI h a 4 by omega]
  refine wp_putI dX6_lay_17 plX6_15 rfl rfl ?_
  have j1 := GB.keep (h' := sI h 42 1 (hI h a 4)) g (fun c j q1 q2 => by rw [hI_sI, if_neg (by omega)])
  have jl := leanV_keep (h := h) (h' := sI h 42 1 (hI h a 4)) hG (fun c j q1 q2 => by rw [hI_sI, if_neg (by omega)])
  refine wp_aload_n dX6_lay_20 rfl ?_
  refine wp_aload_n dX6_lay_21 rfl ?_
  refine wp_callVp dX6_lay_22 mlX6_34 mvX3_lean (S_X3_lean j1) rfl rfl (by decide) (by decide) (gs0 hG) rfl rfl (Nat.le_of_ble_eq_true rfl) ?_
  rw [jl]
  refine wp_putI dX6_lay_25 plX6_19 rfl rfl ?_
  rw [show sI (sI h 42 1 (hI h a 4)) 42 2 (leanV h a) = layK h a b A 0 from (sI_same (fun i => by rw [if_neg (by omega), hI_sI, if_neg (by omega), hI_sI, if_neg (by omega)])).symm]
  refine wp_iconst dX6_lay_28 ?_
  refine wp_istore dX6_lay_29 (by decide) ?_
  refine wp_loc [(0, .ref (adr X 42)), (1, .ref (adr X a)), (2, .ref (adr X b)), (3, .int (iI A)), (4, .int (iI 0))] ⟨rfl, rfl, rfl, rfl, rfl, trivial⟩ ?_
  exact L (hI h a 4).toNat 0 (by omega) (by omega)

theorem layK_R {h : Hp} {a b : Nat} {A : Int} (g : GB h a) (hbd : ∀ i : Nat, (i : Int) < hI h a 4 → 0 ≤ hI h b i ∧ hI h b i ≤ 99) (he : hI h a 4 % 2 = 0) (hA : 0 ≤ A ∧ A < hI h a 4) : RND (layK h a b A (hI h a 4)) (fun p => ggap (fun j => hI h b j.toNat) (hI h a 4) A p - leanV h a) (hI h a 4) := by
  have g1 := g.2.1
  have g2 := g.2.2.1
  refine ⟨layK_P, g1, g2, fun p h0 h1 => ⟨?_, ?_⟩⟩
  · rw [layK_L]
    unfold layK
    rw [hI_sA, if_pos rfl, if_pos (by omega), show ((p.toNat : Nat) : Int) = p by omega]
  · have sb0 := shO_b g 0
    have sb1 := shO_b g 1
    have sb2 := shO_b g 2
    have sb3 := shO_b g 3
    have b2 := arnd_b (P := hI h a 4) (p := p + hI h a 4 / 2) (by omega)
    have b1 := arnd_b (P := hI h a 4) (p := p + A) (by omega)
    have b3 := arnd_b (P := hI h a 4) (p := arnd (hI h a 4) (p + A) + hI h a 4 / 2) (by omega)
    have x0 := hbd p.toNat (by omega)
    have x1 := hbd (arnd (hI h a 4) (p + A)).toNat (by omega)
    have x2 := hbd (arnd (hI h a 4) (p + hI h a 4 / 2)).toNat (by omega)
    have x3 := hbd (arnd (hI h a 4) (arnd (hI h a 4) (p + A) + hI h a 4 / 2)).toNat (by omega)
    show -1000 ≤ ggap (fun j => hI h b j.toNat) (hI h a 4) A p - leanV h a ∧ ggap (fun j => hI h b j.toNat) (hI h a 4) A p - leanV h a ≤ 1000
    unfold ggap leanV
    dsimp only
    omega
theorem RND.cg {h : Hp} {γ δ : Int → Int} {P : Int} (r : RND h γ P) (e : ∀ p, 0 ≤ p → p < P → γ p = δ p) : RND h δ P := ⟨r.1, r.2.1, r.2.2.1, fun p h0 h1 => by rw [← e p h0 h1]; exact r.2.2.2 p h0 h1⟩

set_option maxRecDepth 20000 in
theorem S_X10_layRound {X : Cx} {h : Hp} {σ : Sg} (a : AC h σ) (o : SOK σ) (hP : 0 < gP (sG σ)) : Spec X mX10_layRound 6 [.ref (adr X 0)] h (fun rv h' => rv = none ∧ AC h' σ ∧ sameM h h' ∧ RND h' (gapF (sG σ)) (gP (sG σ)) ∧ hI h' 42 2 = lnF (sG σ)) := by
  have g := a.gb o
  have hG := g.1
  have gk := o.2.2.2.1
  have gb := gk.b
  have gkb := gk.2.1
  have e4 : hI h (hR h 0 6) 4 = gP (sG σ) := a.2.2.2.2.1.1
  have e5 : hI h (hR h 0 6) 5 = gA (sG σ) := a.2.2.2.2.1.2.1
  have e6 : hI h (hR h 0 6) 6 = gK (sG σ) := a.2.2.2.2.1.2.2.1
  have he : hI h (hR h 0 6) 4 % 2 = 0 := by omega
  refine spec_wp (Nat.le_of_ble_eq_true rfl) (by decide +kernel) ?_
  refine wp_loc [(0, .ref (adr X 0))] ⟨rfl, trivial⟩ ?_
  refine wp_aload_n dX10_layRound_0 rfl ?_
  refine wp_getC dX10_layRound_1 flX10_85 rfl rfl ?_
  refine wp_aload_n dX10_layRound_4 rfl ?_
  refine wp_getM dX10_layRound_5 flX10_46 rfl rfl ?_
  refine wp_aload_n dX10_layRound_8 rfl ?_
  refine wp_getM dX10_layRound_9 flX10_46 rfl rfl ?_
  refine wp_getC dX10_layRound_12 flX10_304 (gs0 hG) rfl ?_
  refine wp_aload_n dX10_layRound_15 rfl ?_
  refine wp_getM dX10_layRound_16 flX10_46 rfl rfl ?_
  refine wp_getI dX10_layRound_19 flX10_177 (gs0 hG) rfl ?_
  refine wp_callV dX10_layRound_22 mlX10_316 mvX6_lay (S_X6_lay g (gs1 hG) (by rcases hG with q | q <;> omega) (by rcases hG with q | q <;> omega) he (by omega)) rfl rfl (by decide) (by decide) rfl rfl rfl (Nat.le_of_ble_eq_true rfl) ?_
  rintro rv h1 ⟨rfl, rfl⟩
  exact wp_ret dX10_layRound_25 rfl (⟨rfl, a.off o layK_off, layK_off.M, by have r := layK_R g (b := hR h 0 6 + 1) (A := hI h (hR h 0 6) 5) (fun i hi => g.2.2.2.2.2.1 i (by omega)) he (by omega); rw [e4] at r ⊢; exact r.cg (fun p h0 h1 => by rw [← a.gap o ⟨h0, h1⟩]; unfold gapV; rw [e4]), by rw [layK_L, a.lean]⟩)

theorem stAtF_b (c : Int → Bool) (i : Int) : ∀ (n : Nat) (p a : Int), stAtF c i n p a = -1 ∨ (p ≤ stAtF c i n p a ∧ stAtF c i n p a < p + n ∧ c (stAtF c i n p a) = true)
  | 0, p, a => Or.inl rfl
  | n + 1, p, a => by
    unfold stAtF
    by_cases hc : c p = true
    · rw [if_pos hc]
      by_cases ha : a = i
      · rw [if_pos ha]; exact Or.inr ⟨by omega, by omega, hc⟩
      · rw [if_neg ha]
        rcases stAtF_b c i n (p + 1) (a + 1) with q | q
        · exact Or.inl q
        · exact Or.inr ⟨by omega, by omega, q.2.2⟩
    · rw [if_neg hc]
      rcases stAtF_b c i n (p + 1) a with q | q
      · exact Or.inl q
      · exact Or.inr ⟨by omega, by omega, q.2.2⟩
theorem fwF_b (γ : Int → Int) (P fr sp : Int) (h : 0 ≤ fr ∧ fr < P) : ∀ (n : Nat) (w : Int), 0 ≤ w → w + n ≤ P → fwF γ P fr sp n w = -1 ∨ (0 ≤ fwF γ P fr sp n w ∧ fwF γ P fr sp n w < P)
  | 0, w, _, _ => Or.inl rfl
  | n + 1, w, h0, h1 => by
    unfold fwF
    have ab := arnd_b (P := P) (p := fr + w) (by omega)
    split
    · split
      · exact Or.inr ab
      · exact Or.inl rfl
    · exact fwF_b γ P fr sp h n (w + 1) (by omega) (by omega)
def qStands (σ : Sg) (i w : Int) : Int := if gP (sG σ) = 0 ∨ i < -1 ∨ w < 0 ∨ 2 < w ∨ (i = -1 ∧ w ≠ 0) then -1 else if i = -1 then cntF (stb (gapF (sG σ)) (gP (sG σ))) (gP (sG σ)).toNat 0 0 else if stAtF (stb (gapF (sG σ)) (gP (sG σ))) i (gP (sG σ)).toNat 0 0 = -1 then -1 else plc (gapF (sG σ)) (gP (sG σ)) (stAtF (stb (gapF (sG σ)) (gP (sG σ))) i (gP (sG σ)).toNat 0 0) w
def qWithin (σ : Sg) (p sp w : Int) : Int := if (0 ≤ p ∧ p < gP (sG σ)) ∧ (0 ≤ sp ∧ sp ≤ gP (sG σ)) ∧ 0 ≤ w ∧ w ≤ 2 then (if fwF (gapF (sG σ)) (gP (sG σ)) p sp (min (sp + 1) (gP (sG σ))).toNat 0 = -1 then -1 else plc (gapF (sG σ)) (gP (sG σ)) (fwF (gapF (sG σ)) (gP (sG σ)) p sp (min (sp + 1) (gP (sG σ))).toNat 0) w) else -1
def asF (γ : Int → Int) : Nat → Int → Int → Int
  | 0, _, a => a
  | n + 1, p, a => asF γ n (p + 1) (a + iabs (γ p))
def qRocky (σ : Sg) (w : Int) : Int := if gP (sG σ) = 0 ∨ w < 0 ∨ 2 < w then -1 else if w = 0 then asF (gapF (sG σ)) (gP (sG σ)).toNat 0 0 else min (lrF (gapF (sG σ)) (gP (sG σ)) (if w = 1 then 1 else -1) (2 * gP (sG σ)).toNat 0 0 0) (gP (sG σ))
def nearB (a b : Int) : Bool := decide (iabs a < iabs b) || (decide (iabs a = iabs b) && decide (a < b))
def svF (γ : Int → Int) (P : Int) : Nat → Int → Int → Int → Int × Int
  | 0, _, f, m => (f, m)
  | n + 1, p, f, m => if m < cntF (eqF γ (γ p)) P.toNat 0 0 ∨ (cntF (eqF γ (γ p)) P.toNat 0 0 = m ∧ nearB (γ p) f = true) then svF γ P n (p + 1) (γ p) (cntF (eqF γ (γ p)) P.toNat 0 0) else svF γ P n (p + 1) f m
def sel2 (w : Int) (x : Int × Int) : Int := if w = 0 then x.1 else x.2
def qServes (σ : Sg) (w : Int) : Int := if gP (sG σ) = 0 ∨ w < 0 ∨ 1 < w then -1000000 else sel2 w (svF (gapF (sG σ)) (gP (sG σ)) (gP (sG σ)).toNat 0 0 0)
theorem cntF_b (c : Int → Bool) : ∀ (n : Nat) (p a : Int), a ≤ cntF c n p a ∧ cntF c n p a ≤ a + n
  | 0, p, a => by unfold cntF; omega
  | n + 1, p, a => by
    unfold cntF
    have q := cntF_b c n (p + 1) (if c p = true then a + 1 else a)
    split at q <;> rename_i hc <;> simp only [hc] <;> first | (simp; omega) | omega

set_option maxRecDepth 20000 in
theorem S_X10_stands {X : Cx} {h : Hp} {σ : Sg} (a : AC h σ) (o : SOK σ) {i w : Int} (hi : InR i) (hw : InR w) : Spec X mX10_stands 30 [.ref (adr X 0), .int (iI i), .int (iI w)] h (fun rv h' => rv = some (.int (iI (qStands σ i w))) ∧ AC h' σ ∧ sameM h h') := by
  have g := a.gb o
  have hG := g.1
  have gk := o.2.2.2.1
  have gb := gk.b
  have gkb := gk.2.1
  have e4 : hI h (hR h 0 6) 4 = gP (sG σ) := a.2.2.2.2.1.1
  have e5 : hI h (hR h 0 6) 5 = gA (sG σ) := a.2.2.2.2.1.2.1
  have e6 : hI h (hR h 0 6) 6 = gK (sG σ) := a.2.2.2.2.1.2.2.1
  have he : hI h (hR h 0 6) 4 % 2 = 0 := by omega
  refine spec_wp (Nat.le_of_ble_eq_true rfl) (by decide +kernel) ?_
  refine wp_loc [(0, .ref (adr X 0)), (1, .int (iI i)), (2, .int (iI w))] ⟨rfl, rfl, rfl, trivial⟩ ?_
  refine wp_aload_n dX10_stands_0 rfl ?_
  refine wp_callVp dX10_stands_1 mlX10_148 mvX10_noGarden (S_X10_noGarden g) rfl rfl (by decide) (by decide) rfl rfl rfl (Nat.le_of_ble_eq_true rfl) ?_
  refine wp_ifneb 30 dX10_stands_4 (by decide) (fun c4 => ?_) (fun c4 => ?_)
  · refine wp_iconst dX10_stands_30 ?_
    exact wp_iret dX10_stands_31 rfl (⟨vi (by unfold qStands; rw [if_pos (by omega)]), a, sameM_rf h⟩)
  · refine wp_iload_n dX10_stands_7 rfl ?_
    refine wp_iconst dX10_stands_8 ?_
    refine wp_icmplt 30 dX10_stands_9 (by decide) (by first | assumption | (unfold InR; omega)) (by first | assumption | (unfold InR; omega)) (fun c9 => ?_) (fun c9 => ?_)
    · refine wp_iconst dX10_stands_30 ?_
      exact wp_iret dX10_stands_31 rfl (⟨vi (by unfold qStands; rw [if_pos (by omega)]), a, sameM_rf h⟩)
    · refine wp_iload_n dX10_stands_12 rfl ?_
      refine wp_iflt 30 dX10_stands_13 (by decide) (by first | assumption | (unfold InR; omega)) (fun c13 => ?_) (fun c13 => ?_)
      · refine wp_iconst dX10_stands_30 ?_
        exact wp_iret dX10_stands_31 rfl (⟨vi (by unfold qStands; rw [if_pos (by omega)]), a, sameM_rf h⟩)
      · refine wp_iload_n dX10_stands_16 rfl ?_
        refine wp_iconst dX10_stands_17 ?_
        refine wp_icmpgt 30 dX10_stands_18 (by decide) (by first | assumption | (unfold InR; omega)) (by first | assumption | (unfold InR; omega)) (fun c18 => ?_) (fun c18 => ?_)
        · refine wp_iconst dX10_stands_30 ?_
          exact wp_iret dX10_stands_31 rfl (⟨vi (by unfold qStands; rw [if_pos (by omega)]), a, sameM_rf h⟩)
        · refine wp_iload_n dX10_stands_21 rfl ?_
          refine wp_iconst dX10_stands_22 ?_
          refine wp_icmpne 32 dX10_stands_23 (by decide) (by first | assumption | (unfold InR; omega)) (by first | assumption | (unfold InR; omega)) (fun c23 => ?_) (fun c23 => ?_)
          · refine wp_aload_n dX10_stands_32 rfl ?_
            refine wp_callV dX10_stands_33 mlX10_188 mvX10_layRound (S_X10_layRound a o (by omega)) rfl rfl (by decide) (by decide) rfl rfl rfl (Nat.le_of_ble_eq_true rfl) ?_
            rintro rv h1 ⟨rfl, a, s1, hr, hln⟩
            have g := a.gb o
            have hG := g.1
            have gk := o.2.2.2.1
            have gb := gk.b
            have gkb := gk.2.1
            have e4 : hI h1 (hR h1 0 6) 4 = gP (sG σ) := a.2.2.2.2.1.1
            have e5 : hI h1 (hR h1 0 6) 5 = gA (sG σ) := a.2.2.2.2.1.2.1
            have e6 : hI h1 (hR h1 0 6) 6 = gK (sG σ) := a.2.2.2.2.1.2.2.1
            have he : hI h1 (hR h1 0 6) 4 % 2 = 0 := by omega
            refine wp_iload_n dX10_stands_36 rfl ?_
            refine wp_iconst dX10_stands_37 ?_
            refine wp_icmpne 49 dX10_stands_38 (by decide) (by first | assumption | (unfold InR; omega)) (by first | assumption | (unfold InR; omega)) (fun c38 => ?_) (fun c38 => ?_)
            · refine wp_aload_n dX10_stands_49 rfl ?_
              refine wp_getC dX10_stands_50 flX10_85 rfl rfl ?_
              refine wp_iload_n dX10_stands_53 rfl ?_
              refine wp_callVp dX10_stands_54 mlX10_194 mvX6_standAt (S_X6_standAt hr (by first | assumption | (unfold InR; omega))) rfl rfl (by decide) (by decide) rfl rfl rfl (Nat.le_of_ble_eq_true rfl) ?_
              have pb := stAtF_b (stb (gapF (sG σ)) (gP (sG σ))) i (gP (sG σ)).toNat 0 0
              generalize hp : stAtF (stb (gapF (sG σ)) (gP (sG σ))) i (gP (sG σ)).toNat 0 0 = p at pb
              refine wp_istore_n dX10_stands_57 (by decide) ?_
              refine wp_iload_n dX10_stands_58 rfl ?_
              refine wp_iconst dX10_stands_59 ?_
              refine wp_icmpne 67 dX10_stands_60 (by decide) (by first | assumption | (unfold InR; omega)) (by first | assumption | (unfold InR; omega)) (fun c60 => ?_) (fun c60 => ?_)
              · refine wp_aload_n dX10_stands_67 rfl ?_
                refine wp_getC dX10_stands_68 flX10_85 rfl rfl ?_
                refine wp_iload_n dX10_stands_71 rfl ?_
                refine wp_iload_n dX10_stands_72 rfl ?_
                refine wp_callVp dX10_stands_73 mlX10_197 mvX6_place (S_X6_place hr (by omega) (by omega)) rfl rfl (by decide) (by decide) rfl rfl rfl (Nat.le_of_ble_eq_true rfl) ?_
                exact wp_iret dX10_stands_76 rfl (⟨vi (by first | (exfalso; omega) | (unfold qStands; rw [if_neg (by omega), if_neg (by omega), hp]; first | rw [if_pos (by omega)] | rw [if_neg (by omega)])), a, s1⟩)
              · refine wp_iconst dX10_stands_63 ?_
                refine wp_goto 76 dX10_stands_64 (by decide) ?_
                exact wp_iret dX10_stands_76 rfl (⟨vi (by first | (exfalso; omega) | (unfold qStands; rw [if_neg (by omega), if_neg (by omega), hp]; first | rw [if_pos (by omega)] | rw [if_neg (by omega)])), a, s1⟩)
            · refine wp_aload_n dX10_stands_41 rfl ?_
              refine wp_getC dX10_stands_42 flX10_85 rfl rfl ?_
              refine wp_callVp dX10_stands_45 mlX10_191 mvX6_standCount (S_X6_standCount hr) rfl rfl (by decide) (by decide) rfl rfl rfl (Nat.le_of_ble_eq_true rfl) ?_
              exact wp_iret dX10_stands_48 rfl (⟨vi (by unfold qStands; rw [if_neg (by omega), if_pos (by omega)]), a, s1⟩)
          · refine wp_iload_n dX10_stands_26 rfl ?_
            refine wp_ifeq 32 dX10_stands_27 (by decide) (by first | assumption | (unfold InR; omega)) (fun c27 => ?_) (fun c27 => ?_)
            · refine wp_aload_n dX10_stands_32 rfl ?_
              refine wp_callV dX10_stands_33 mlX10_188 mvX10_layRound (S_X10_layRound a o (by omega)) rfl rfl (by decide) (by decide) rfl rfl rfl (Nat.le_of_ble_eq_true rfl) ?_
              rintro rv h1 ⟨rfl, a, s1, hr, hln⟩
              have g := a.gb o
              have hG := g.1
              have gk := o.2.2.2.1
              have gb := gk.b
              have gkb := gk.2.1
              have e4 : hI h1 (hR h1 0 6) 4 = gP (sG σ) := a.2.2.2.2.1.1
              have e5 : hI h1 (hR h1 0 6) 5 = gA (sG σ) := a.2.2.2.2.1.2.1
              have e6 : hI h1 (hR h1 0 6) 6 = gK (sG σ) := a.2.2.2.2.1.2.2.1
              have he : hI h1 (hR h1 0 6) 4 % 2 = 0 := by omega
              refine wp_iload_n dX10_stands_36 rfl ?_
              refine wp_iconst dX10_stands_37 ?_
              refine wp_icmpne 49 dX10_stands_38 (by decide) (by first | assumption | (unfold InR; omega)) (by first | assumption | (unfold InR; omega)) (fun c38 => ?_) (fun c38 => ?_)
              · refine wp_aload_n dX10_stands_49 rfl ?_
                refine wp_getC dX10_stands_50 flX10_85 rfl rfl ?_
                refine wp_iload_n dX10_stands_53 rfl ?_
                refine wp_callVp dX10_stands_54 mlX10_194 mvX6_standAt (S_X6_standAt hr (by first | assumption | (unfold InR; omega))) rfl rfl (by decide) (by decide) rfl rfl rfl (Nat.le_of_ble_eq_true rfl) ?_
                have pb := stAtF_b (stb (gapF (sG σ)) (gP (sG σ))) i (gP (sG σ)).toNat 0 0
                generalize hp : stAtF (stb (gapF (sG σ)) (gP (sG σ))) i (gP (sG σ)).toNat 0 0 = p at pb
                refine wp_istore_n dX10_stands_57 (by decide) ?_
                refine wp_iload_n dX10_stands_58 rfl ?_
                refine wp_iconst dX10_stands_59 ?_
                refine wp_icmpne 67 dX10_stands_60 (by decide) (by first | assumption | (unfold InR; omega)) (by first | assumption | (unfold InR; omega)) (fun c60 => ?_) (fun c60 => ?_)
                · refine wp_aload_n dX10_stands_67 rfl ?_
                  refine wp_getC dX10_stands_68 flX10_85 rfl rfl ?_
                  refine wp_iload_n dX10_stands_71 rfl ?_
                  refine wp_iload_n dX10_stands_72 rfl ?_
                  refine wp_callVp dX10_stands_73 mlX10_197 mvX6_place (S_X6_place hr (by omega) (by omega)) rfl rfl (by decide) (by decide) rfl rfl rfl (Nat.le_of_ble_eq_true rfl) ?_
                  exact wp_iret dX10_stands_76 rfl (⟨vi (by first | (exfalso; omega) | (unfold qStands; rw [if_neg (by omega), if_neg (by omega), hp]; first | rw [if_pos (by omega)] | rw [if_neg (by omega)])), a, s1⟩)
                · refine wp_iconst dX10_stands_63 ?_
                  refine wp_goto 76 dX10_stands_64 (by decide) ?_
                  exact wp_iret dX10_stands_76 rfl (⟨vi (by first | (exfalso; omega) | (unfold qStands; rw [if_neg (by omega), if_neg (by omega), hp]; first | rw [if_pos (by omega)] | rw [if_neg (by omega)])), a, s1⟩)
              · refine wp_aload_n dX10_stands_41 rfl ?_
                refine wp_getC dX10_stands_42 flX10_85 rfl rfl ?_
                refine wp_callVp dX10_stands_45 mlX10_191 mvX6_standCount (S_X6_standCount hr) rfl rfl (by decide) (by decide) rfl rfl rfl (Nat.le_of_ble_eq_true rfl) ?_
                exact wp_iret dX10_stands_48 rfl (⟨vi (by unfold qStands; rw [if_neg (by omega), if_pos (by omega)]), a, s1⟩)
            · refine wp_iconst dX10_stands_30 ?_
              exact wp_iret dX10_stands_31 rfl (⟨vi (by unfold qStands; rw [if_pos (by omega)]), a, sameM_rf h⟩)

set_option maxRecDepth 20000 in
theorem S_X10_within {X : Cx} {h : Hp} {σ : Sg} (a : AC h σ) (o : SOK σ) {p sp w : Int} (hp : InR p) (hsp : InR sp) (hw : InR w) : Spec X mX10_within 30 [.ref (adr X 0), .int (iI p), .int (iI sp), .int (iI w)] h (fun rv h' => rv = some (.int (iI (qWithin σ p sp w))) ∧ AC h' σ ∧ sameM h h') := by
  have g := a.gb o
  have hG := g.1
  have gk := o.2.2.2.1
  have gb := gk.b
  have gkb := gk.2.1
  have e4 : hI h (hR h 0 6) 4 = gP (sG σ) := a.2.2.2.2.1.1
  have e5 : hI h (hR h 0 6) 5 = gA (sG σ) := a.2.2.2.2.1.2.1
  have e6 : hI h (hR h 0 6) 6 = gK (sG σ) := a.2.2.2.2.1.2.2.1
  have he : hI h (hR h 0 6) 4 % 2 = 0 := by omega
  refine spec_wp (Nat.le_of_ble_eq_true rfl) (by decide +kernel) ?_
  refine wp_loc [(0, .ref (adr X 0)), (1, .int (iI p)), (2, .int (iI sp)), (3, .int (iI w))] ⟨rfl, rfl, rfl, rfl, trivial⟩ ?_
  refine wp_aload_n dX10_within_0 rfl ?_
  refine wp_getM dX10_within_1 flX10_46 rfl rfl ?_
  refine wp_iload_n dX10_within_4 rfl ?_
  refine wp_callVp dX10_within_5 mlX10_152 mvX3_has (S_X3_has g (by first | assumption | (unfold InR; omega))) rfl rfl (by decide) (by decide) (gs0 hG) rfl rfl (Nat.le_of_ble_eq_true rfl) ?_
  refine wp_ifeqb 35 dX10_within_8 (by decide) (fun c8 => ?_) (fun c8 => ?_)
  · refine wp_iconst dX10_within_35 ?_
    exact wp_iret dX10_within_36 rfl (⟨vi (by unfold qWithin; rw [if_neg (by omega)]), a, sameM_rf h⟩)
  · refine wp_iload_n dX10_within_11 rfl ?_
    refine wp_iflt 35 dX10_within_12 (by decide) (by first | assumption | (unfold InR; omega)) (fun c12 => ?_) (fun c12 => ?_)
    · refine wp_iconst dX10_within_35 ?_
      exact wp_iret dX10_within_36 rfl (⟨vi (by unfold qWithin; rw [if_neg (by omega)]), a, sameM_rf h⟩)
    · refine wp_iload_n dX10_within_15 rfl ?_
      refine wp_aload_n dX10_within_16 rfl ?_
      refine wp_getM dX10_within_17 flX10_46 rfl rfl ?_
      refine wp_getI dX10_within_20 flX10_137 (gs0 hG) rfl ?_
      refine wp_icmpgt 35 dX10_within_23 (by decide) (by first | assumption | (unfold InR; omega)) (by first | assumption | (unfold InR; omega)) (fun c23 => ?_) (fun c23 => ?_)
      · refine wp_iconst dX10_within_35 ?_
        exact wp_iret dX10_within_36 rfl (⟨vi (by unfold qWithin; rw [if_neg (by omega)]), a, sameM_rf h⟩)
      · refine wp_iload_n dX10_within_26 rfl ?_
        refine wp_iflt 35 dX10_within_27 (by decide) (by first | assumption | (unfold InR; omega)) (fun c27 => ?_) (fun c27 => ?_)
        · refine wp_iconst dX10_within_35 ?_
          exact wp_iret dX10_within_36 rfl (⟨vi (by unfold qWithin; rw [if_neg (by omega)]), a, sameM_rf h⟩)
        · refine wp_iload_n dX10_within_30 rfl ?_
          refine wp_iconst dX10_within_31 ?_
          refine wp_icmple 37 dX10_within_32 (by decide) (by first | assumption | (unfold InR; omega)) (by first | assumption | (unfold InR; omega)) (fun c32 => ?_) (fun c32 => ?_)
          · refine wp_aload_n dX10_within_37 rfl ?_
            refine wp_callV dX10_within_38 mlX10_188 mvX10_layRound (S_X10_layRound a o (by omega)) rfl rfl (by decide) (by decide) rfl rfl rfl (Nat.le_of_ble_eq_true rfl) ?_
            rintro rv h1 ⟨rfl, a, s1, hr, hln⟩
            have g := a.gb o
            have hG := g.1
            have gk := o.2.2.2.1
            have gb := gk.b
            have gkb := gk.2.1
            have e4 : hI h1 (hR h1 0 6) 4 = gP (sG σ) := a.2.2.2.2.1.1
            have e5 : hI h1 (hR h1 0 6) 5 = gA (sG σ) := a.2.2.2.2.1.2.1
            have e6 : hI h1 (hR h1 0 6) 6 = gK (sG σ) := a.2.2.2.2.1.2.2.1
            have he : hI h1 (hR h1 0 6) 4 % 2 = 0 := by omega
            refine wp_aload_n dX10_within_41 rfl ?_
            refine wp_getC dX10_within_42 flX10_85 rfl rfl ?_
            refine wp_iload_n dX10_within_45 rfl ?_
            refine wp_iload_n dX10_within_46 rfl ?_
            refine wp_callVp dX10_within_47 mlX10_230 mvX6_firstWithin (S_X6_firstWithin hr (by omega) (by omega)) rfl rfl (by decide) (by decide) rfl rfl rfl (Nat.le_of_ble_eq_true rfl) ?_
            have pb := fwF_b (gapF (sG σ)) (gP (sG σ)) p sp (by omega) (min (sp + 1) (gP (sG σ))).toNat 0 (by omega) (by omega)
            generalize hf : fwF (gapF (sG σ)) (gP (sG σ)) p sp (min (sp + 1) (gP (sG σ))).toNat 0 = f at pb
            refine wp_istore dX10_within_50 (by decide) ?_
            refine wp_iload dX10_within_52 rfl ?_
            refine wp_iconst dX10_within_54 ?_
            refine wp_icmpne 62 dX10_within_55 (by decide) (by first | assumption | (unfold InR; omega)) (by first | assumption | (unfold InR; omega)) (fun c55 => ?_) (fun c55 => ?_)
            · refine wp_aload_n dX10_within_62 rfl ?_
              refine wp_getC dX10_within_63 flX10_85 rfl rfl ?_
              refine wp_iload dX10_within_66 rfl ?_
              refine wp_iload_n dX10_within_68 rfl ?_
              refine wp_callVp dX10_within_69 mlX10_197 mvX6_place (S_X6_place hr (by omega) (by omega)) rfl rfl (by decide) (by decide) rfl rfl rfl (Nat.le_of_ble_eq_true rfl) ?_
              exact wp_iret dX10_within_72 rfl (⟨vi (by unfold qWithin; rw [if_pos (by omega), hf]; first | rw [if_pos (by omega)] | rw [if_neg (by omega)]), a, s1⟩)
            · refine wp_iconst dX10_within_58 ?_
              refine wp_goto 72 dX10_within_59 (by decide) ?_
              exact wp_iret dX10_within_72 rfl (⟨vi (by unfold qWithin; rw [if_pos (by omega), hf]; first | rw [if_pos (by omega)] | rw [if_neg (by omega)]), a, s1⟩)
          · refine wp_iconst dX10_within_35 ?_
            exact wp_iret dX10_within_36 rfl (⟨vi (by unfold qWithin; rw [if_neg (by omega)]), a, sameM_rf h⟩)

set_option maxRecDepth 20000 in
theorem S_X10_rocky {X : Cx} {h : Hp} {σ : Sg} (a : AC h σ) (o : SOK σ) {w : Int} (hw : InR w) : Spec X mX10_rocky 30 [.ref (adr X 0), .int (iI w)] h (fun rv h' => rv = some (.int (iI (qRocky σ w))) ∧ AC h' σ ∧ sameM h h') := by
  have g := a.gb o
  have hG := g.1
  have gk := o.2.2.2.1
  have gb := gk.b
  have gkb := gk.2.1
  have e4 : hI h (hR h 0 6) 4 = gP (sG σ) := a.2.2.2.2.1.1
  have e5 : hI h (hR h 0 6) 5 = gA (sG σ) := a.2.2.2.2.1.2.1
  have e6 : hI h (hR h 0 6) 6 = gK (sG σ) := a.2.2.2.2.1.2.2.1
  have he : hI h (hR h 0 6) 4 % 2 = 0 := by omega
  refine spec_wp (Nat.le_of_ble_eq_true rfl) (by decide +kernel) ?_
  refine wp_loc [(0, .ref (adr X 0)), (1, .int (iI w))] ⟨rfl, rfl, trivial⟩ ?_
  refine wp_aload_n dX10_rocky_0 rfl ?_
  refine wp_callVp dX10_rocky_1 mlX10_148 mvX10_noGarden (S_X10_noGarden g) rfl rfl (by decide) (by decide) rfl rfl rfl (Nat.le_of_ble_eq_true rfl) ?_
  refine wp_ifneb 16 dX10_rocky_4 (by decide) (fun c4 => ?_) (fun c4 => ?_)
  · refine wp_iconst dX10_rocky_16 ?_
    exact wp_iret dX10_rocky_17 rfl (⟨vi (by unfold qRocky; rw [if_pos (by omega)]), a, sameM_rf h⟩)
  · refine wp_iload_n dX10_rocky_7 rfl ?_
    refine wp_iflt 16 dX10_rocky_8 (by decide) (by first | assumption | (unfold InR; omega)) (fun c8 => ?_) (fun c8 => ?_)
    · refine wp_iconst dX10_rocky_16 ?_
      exact wp_iret dX10_rocky_17 rfl (⟨vi (by unfold qRocky; rw [if_pos (by omega)]), a, sameM_rf h⟩)
    · refine wp_iload_n dX10_rocky_11 rfl ?_
      refine wp_iconst dX10_rocky_12 ?_
      refine wp_icmple 18 dX10_rocky_13 (by decide) (by first | assumption | (unfold InR; omega)) (by first | assumption | (unfold InR; omega)) (fun c13 => ?_) (fun c13 => ?_)
      · refine wp_aload_n dX10_rocky_18 rfl ?_
        refine wp_callV dX10_rocky_19 mlX10_188 mvX10_layRound (S_X10_layRound a o (by omega)) rfl rfl (by decide) (by decide) rfl rfl rfl (Nat.le_of_ble_eq_true rfl) ?_
        rintro rv h1 ⟨rfl, a, s1, hr, hln⟩
        have g := a.gb o
        have hG := g.1
        have gk := o.2.2.2.1
        have gb := gk.b
        have gkb := gk.2.1
        have e4 : hI h1 (hR h1 0 6) 4 = gP (sG σ) := a.2.2.2.2.1.1
        have e5 : hI h1 (hR h1 0 6) 5 = gA (sG σ) := a.2.2.2.2.1.2.1
        have e6 : hI h1 (hR h1 0 6) 6 = gK (sG σ) := a.2.2.2.2.1.2.2.1
        have he : hI h1 (hR h1 0 6) 4 % 2 = 0 := by omega
        refine wp_iload_n dX10_rocky_22 rfl ?_
        refine wp_ifle 44 dX10_rocky_23 (by decide) (by first | assumption | (unfold InR; omega)) (fun c23 => ?_) (fun c23 => ?_)
        · refine wp_iconst dX10_rocky_44 ?_
          refine wp_istore_n dX10_rocky_45 (by decide) ?_
          refine wp_iconst dX10_rocky_46 ?_
          refine wp_istore_n dX10_rocky_47 (by decide) ?_
          obtain ⟨V, hV0⟩ : ∃ V : Int, V = qRocky σ w := ⟨_, rfl⟩
          rw [← hV0]
          unfold qRocky at hV0
          rw [if_neg (by omega), if_pos (by omega)] at hV0
          have L : ∀ (n : Nat) (p c : Int), (p + n = gP (sG σ)) → (0 ≤ p) → (V = asF (gapF (sG σ)) n p c) → WP X mX10_rocky 30 48 [(0, .ref (adr X 0)), (2, .int (iI c)), (3, .int (iI p))] [] h1 (fun rv h' => rv = some (.int (iI V)) ∧ AC h' σ ∧ sameM h h') := by
            intro n
            induction n with
            | zero =>
              intro p c hn hp hV
              refine wp_iload_n dX10_rocky_48 rfl ?_
              refine wp_aload_n dX10_rocky_49 rfl ?_
              refine wp_getM dX10_rocky_50 flX10_46 rfl rfl ?_
              refine wp_getI dX10_rocky_53 flX10_137 (gs0 hG) rfl ?_
              refine wp_icmpge 79 dX10_rocky_56 (by decide) (by unfold InR; omega) (by unfold InR; omega) (fun c56 => ?_) (fun c56 => ?_)
              · refine wp_iload_n dX10_rocky_79 rfl ?_
                exact wp_iret dX10_rocky_80 rfl (⟨vi (by rw [hV]; rfl), a, s1⟩)
              · exact absurd c56 (by omega)
            | succ n ih =>
              intro p c hn hp hV
              refine wp_iload_n dX10_rocky_48 rfl ?_
              refine wp_aload_n dX10_rocky_49 rfl ?_
              refine wp_getM dX10_rocky_50 flX10_46 rfl rfl ?_
              refine wp_getI dX10_rocky_53 flX10_137 (gs0 hG) rfl ?_
              refine wp_icmpge 79 dX10_rocky_56 (by decide) (by unfold InR; omega) (by unfold InR; omega) (fun c56 => ?_) (fun c56 => ?_)
              · exact absurd c56 (by omega)
              · refine wp_iload_n dX10_rocky_59 rfl ?_
                refine wp_aload_n dX10_rocky_60 rfl ?_
                refine wp_getC dX10_rocky_61 flX10_85 rfl rfl ?_
                refine wp_iload_n dX10_rocky_64 rfl ?_
                refine wp_callVp dX10_rocky_65 mlX10_344 mvX6_gapAt (S_X6_gapAt hr (by omega)) rfl rfl (by decide) (by decide) rfl rfl rfl (Nat.le_of_ble_eq_true rfl) ?_
                rw [arnd_in (show p < gP (sG σ) by omega)]
                have vb := gapF_b gk p
                refine wp_callSp dX10_rocky_68 mlX10_222 msJ9_abs_0f7a4 (S_J9_abs_0f7a4 (by unfold InR; omega)) rfl rfl (by decide) (by decide) (Nat.le_of_ble_eq_true rfl) ?_
                refine wp_iadd dX10_rocky_71 ?_
                refine wp_istore_n dX10_rocky_72 (by decide) ?_
                refine wp_iinc dX10_rocky_73 rfl (by decide) ?_
                refine wp_goto 48 dX10_rocky_76 (by decide) ?_
                refine wp_loc [(0, .ref (adr X 0)), (2, .int (iI _)), (3, .int (iI (p + 1)))] ⟨rfl, rfl, rfl, trivial⟩ ?_
                exact ih (p + 1) _ (by omega) (by omega) (hV.trans (by rw [asF]))
          refine wp_loc [(0, .ref (adr X 0)), (2, .int (iI 0)), (3, .int (iI 0))] ⟨rfl, rfl, rfl, trivial⟩ ?_
          exact L (gP (sG σ)).toNat 0 0 (by omega) (by omega) hV0
        · refine wp_aload_n dX10_rocky_26 rfl ?_
          refine wp_getC dX10_rocky_27 flX10_85 rfl rfl ?_
          refine wp_iload_n dX10_rocky_30 rfl ?_
          refine wp_iconst dX10_rocky_31 ?_
          refine wp_icmpne 39 dX10_rocky_32 (by decide) (by first | assumption | (unfold InR; omega)) (by first | assumption | (unfold InR; omega)) (fun c32 => ?_) (fun c32 => ?_)
          · refine wp_iconst dX10_rocky_39 ?_
            refine wp_callVp dX10_rocky_40 mlX10_352 mvX6_longestRun (S_X6_longestRun hr (by omega)) rfl rfl (by decide) (by decide) rfl rfl rfl (Nat.le_of_ble_eq_true rfl) ?_
            exact wp_iret dX10_rocky_43 rfl (⟨vi (by unfold qRocky; rw [if_neg (by omega), if_neg (by omega)]; first | rw [if_pos (by omega)] | rw [if_neg (by omega)]), a, s1⟩)
          · refine wp_iconst dX10_rocky_35 ?_
            refine wp_goto 40 dX10_rocky_36 (by decide) ?_
            refine wp_callVp dX10_rocky_40 mlX10_352 mvX6_longestRun (S_X6_longestRun hr (by omega)) rfl rfl (by decide) (by decide) rfl rfl rfl (Nat.le_of_ble_eq_true rfl) ?_
            exact wp_iret dX10_rocky_43 rfl (⟨vi (by unfold qRocky; rw [if_neg (by omega), if_neg (by omega)]; first | rw [if_pos (by omega)] | rw [if_neg (by omega)]), a, s1⟩)
      · refine wp_iconst dX10_rocky_16 ?_
        exact wp_iret dX10_rocky_17 rfl (⟨vi (by unfold qRocky; rw [if_pos (by omega)]), a, sameM_rf h⟩)

set_option maxRecDepth 20000 in
theorem S_X10_isNearer {X : Cx} {h : Hp} {x y : Int} (hx : -1000 ≤ x ∧ x ≤ 1000) (hy : -1000 ≤ y ∧ y ≤ 1000) : Spec X mX10_isNearer 1 [.int (iI x), .int (iI y)] h (fun rv h' => rv = some (.int (iI (b2i (nearB x y = true)))) ∧ h' = h) := by
  have u1 := iabs_b (n := 1000) hx
  have u2 := iabs_b (n := 1000) hy
  have hb : nearB x y = true ↔ (iabs x < iabs y ∨ (iabs x = iabs y ∧ x < y)) := by unfold nearB; simp
  refine spec_wp (Nat.le_of_ble_eq_true rfl) (by decide +kernel) ?_
  refine wp_loc [(0, .int (iI x)), (1, .int (iI y))] ⟨rfl, rfl, trivial⟩ ?_
  refine wp_iload_n dX10_isNearer_0 rfl ?_
  refine wp_callSp dX10_isNearer_1 mlX10_222 msJ9_abs_0f7a4 (S_J9_abs_0f7a4 (by unfold InR; omega)) rfl rfl (by decide) (by decide) (Nat.le_of_ble_eq_true rfl) ?_
  refine wp_istore_n dX10_isNearer_4 (by decide) ?_
  refine wp_iload_n dX10_isNearer_5 rfl ?_
  refine wp_callSp dX10_isNearer_6 mlX10_222 msJ9_abs_0f7a4 (S_J9_abs_0f7a4 (by unfold InR; omega)) rfl rfl (by decide) (by decide) (Nat.le_of_ble_eq_true rfl) ?_
  refine wp_istore_n dX10_isNearer_9 (by decide) ?_
  refine wp_iload_n dX10_isNearer_10 rfl ?_
  refine wp_iload_n dX10_isNearer_11 rfl ?_
  refine wp_icmplt 25 dX10_isNearer_12 (by decide) (by unfold InR; omega) (by unfold InR; omega) (fun c12 => ?_) (fun c12 => ?_)
  · refine wp_iconst dX10_isNearer_25 ?_
    refine wp_goto 30 dX10_isNearer_26 (by decide) ?_
    exact wp_zret dX10_isNearer_30 rfl (by omega) (⟨by first | exact vb1 (hb.mpr (by omega)) | exact vb0 (fun z => by have := hb.mp z; omega), rfl⟩)
  · refine wp_iload_n dX10_isNearer_15 rfl ?_
    refine wp_iload_n dX10_isNearer_16 rfl ?_
    refine wp_icmpne 29 dX10_isNearer_17 (by decide) (by unfold InR; omega) (by unfold InR; omega) (fun c17 => ?_) (fun c17 => ?_)
    · refine wp_iconst dX10_isNearer_29 ?_
      exact wp_zret dX10_isNearer_30 rfl (by omega) (⟨by first | exact vb1 (hb.mpr (by omega)) | exact vb0 (fun z => by have := hb.mp z; omega), rfl⟩)
    · refine wp_iload_n dX10_isNearer_20 rfl ?_
      refine wp_iload_n dX10_isNearer_21 rfl ?_
      refine wp_icmpge 29 dX10_isNearer_22 (by decide) (by unfold InR; omega) (by unfold InR; omega) (fun c22 => ?_) (fun c22 => ?_)
      · refine wp_iconst dX10_isNearer_29 ?_
        exact wp_zret dX10_isNearer_30 rfl (by omega) (⟨by first | exact vb1 (hb.mpr (by omega)) | exact vb0 (fun z => by have := hb.mp z; omega), rfl⟩)
      · refine wp_iconst dX10_isNearer_25 ?_
        refine wp_goto 30 dX10_isNearer_26 (by decide) ?_
        exact wp_zret dX10_isNearer_30 rfl (by omega) (⟨by first | exact vb1 (hb.mpr (by omega)) | exact vb0 (fun z => by have := hb.mp z; omega), rfl⟩)

set_option maxRecDepth 20000 in
theorem S_X10_serves {X : Cx} {h : Hp} {σ : Sg} (a : AC h σ) (o : SOK σ) {w : Int} (hw : InR w) : Spec X mX10_serves 30 [.ref (adr X 0), .int (iI w)] h (fun rv h' => rv = some (.int (iI (qServes σ w))) ∧ AC h' σ ∧ sameM h h') := by
  have g := a.gb o
  have hG := g.1
  have gk := o.2.2.2.1
  have gb := gk.b
  have gkb := gk.2.1
  have e4 : hI h (hR h 0 6) 4 = gP (sG σ) := a.2.2.2.2.1.1
  have e5 : hI h (hR h 0 6) 5 = gA (sG σ) := a.2.2.2.2.1.2.1
  have e6 : hI h (hR h 0 6) 6 = gK (sG σ) := a.2.2.2.2.1.2.2.1
  have he : hI h (hR h 0 6) 4 % 2 = 0 := by omega
  refine spec_wp (Nat.le_of_ble_eq_true rfl) (by decide +kernel) ?_
  refine wp_loc [(0, .ref (adr X 0)), (1, .int (iI w))] ⟨rfl, rfl, trivial⟩ ?_
  refine wp_aload_n dX10_serves_0 rfl ?_
  refine wp_callVp dX10_serves_1 mlX10_148 mvX10_noGarden (S_X10_noGarden g) rfl rfl (by decide) (by decide) rfl rfl rfl (Nat.le_of_ble_eq_true rfl) ?_
  refine wp_ifneb 16 dX10_serves_4 (by decide) (fun c4 => ?_) (fun c4 => ?_)
  · refine wp_ldc (z := -1000000) dX10_serves_16 kcX10_181 ?_
    exact wp_iret dX10_serves_18 rfl (⟨vi (by unfold qServes; rw [if_pos (by omega)]), a, sameM_rf h⟩)
  · refine wp_iload_n dX10_serves_7 rfl ?_
    refine wp_iflt 16 dX10_serves_8 (by decide) (by first | assumption | (unfold InR; omega)) (fun c8 => ?_) (fun c8 => ?_)
    · refine wp_ldc (z := -1000000) dX10_serves_16 kcX10_181 ?_
      exact wp_iret dX10_serves_18 rfl (⟨vi (by unfold qServes; rw [if_pos (by omega)]), a, sameM_rf h⟩)
    · refine wp_iload_n dX10_serves_11 rfl ?_
      refine wp_iconst dX10_serves_12 ?_
      refine wp_icmple 19 dX10_serves_13 (by decide) (by first | assumption | (unfold InR; omega)) (by first | assumption | (unfold InR; omega)) (fun c13 => ?_) (fun c13 => ?_)
      · refine wp_aload_n dX10_serves_19 rfl ?_
        refine wp_callV dX10_serves_20 mlX10_188 mvX10_layRound (S_X10_layRound a o (by omega)) rfl rfl (by decide) (by decide) rfl rfl rfl (Nat.le_of_ble_eq_true rfl) ?_
        rintro rv h1 ⟨rfl, a, s1, hr, hln⟩
        have g := a.gb o
        have hG := g.1
        have gk := o.2.2.2.1
        have gb := gk.b
        have gkb := gk.2.1
        have e4 : hI h1 (hR h1 0 6) 4 = gP (sG σ) := a.2.2.2.2.1.1
        have e5 : hI h1 (hR h1 0 6) 5 = gA (sG σ) := a.2.2.2.2.1.2.1
        have e6 : hI h1 (hR h1 0 6) 6 = gK (sG σ) := a.2.2.2.2.1.2.2.1
        have he : hI h1 (hR h1 0 6) 4 % 2 = 0 := by omega
        refine wp_iconst dX10_serves_23 ?_
        refine wp_istore_n dX10_serves_24 (by decide) ?_
        refine wp_iconst dX10_serves_25 ?_
        refine wp_istore_n dX10_serves_26 (by decide) ?_
        refine wp_iconst dX10_serves_27 ?_
        refine wp_istore dX10_serves_28 (by decide) ?_
        obtain ⟨V, hV0⟩ : ∃ V : Int, V = qServes σ w := ⟨_, rfl⟩
        rw [← hV0]
        unfold qServes at hV0
        rw [if_neg (by omega)] at hV0
        have L : ∀ (n : Nat) (p f m : Int), (p + n = gP (sG σ)) → (0 ≤ p) → (-1000 ≤ f ∧ f ≤ 1000) → (0 ≤ m ∧ m ≤ 24) → (V = sel2 w (svF (gapF (sG σ)) (gP (sG σ)) n p f m)) → WP X mX10_serves 30 30 [(0, .ref (adr X 0)), (1, .int (iI w)), (2, .int (iI f)), (3, .int (iI m)), (4, .int (iI p))] [] h1 (fun rv h' => rv = some (.int (iI V)) ∧ AC h' σ ∧ sameM h h') := by
          intro n
          induction n with
          | zero =>
            intro p f m hn hp hf hm hV
            refine wp_iload dX10_serves_30 rfl ?_
            refine wp_aload_n dX10_serves_32 rfl ?_
            refine wp_getM dX10_serves_33 flX10_46 rfl rfl ?_
            refine wp_getI dX10_serves_36 flX10_137 (gs0 hG) rfl ?_
            refine wp_icmpge 97 dX10_serves_39 (by decide) (by first | assumption | (unfold InR; omega)) (by first | assumption | (unfold InR; omega)) (fun c39 => ?_) (fun c39 => ?_)
            · refine wp_iload_n dX10_serves_97 rfl ?_
              refine wp_ifne 105 dX10_serves_98 (by decide) (by first | assumption | (unfold InR; omega)) (fun c98 => ?_) (fun c98 => ?_)
              · refine wp_iload_n dX10_serves_105 rfl ?_
                exact wp_iret dX10_serves_106 rfl (⟨vi (by rw [hV, svF, sel2]; first | rw [if_pos (by omega)] | rw [if_neg (by omega)]), a, s1⟩)
              · refine wp_iload_n dX10_serves_101 rfl ?_
                refine wp_goto 106 dX10_serves_102 (by decide) ?_
                exact wp_iret dX10_serves_106 rfl (⟨vi (by rw [hV, svF, sel2]; first | rw [if_pos (by omega)] | rw [if_neg (by omega)]), a, s1⟩)
            · exact absurd c39 (by omega)
          | succ n ih =>
            intro p f m hn hp hf hm hV
            refine wp_iload dX10_serves_30 rfl ?_
            refine wp_aload_n dX10_serves_32 rfl ?_
            refine wp_getM dX10_serves_33 flX10_46 rfl rfl ?_
            refine wp_getI dX10_serves_36 flX10_137 (gs0 hG) rfl ?_
            refine wp_icmpge 97 dX10_serves_39 (by decide) (by first | assumption | (unfold InR; omega)) (by first | assumption | (unfold InR; omega)) (fun c39 => ?_) (fun c39 => ?_)
            · exact absurd c39 (by omega)
            · refine wp_aload_n dX10_serves_42 rfl ?_
              refine wp_getC dX10_serves_43 flX10_85 rfl rfl ?_
              refine wp_iload dX10_serves_46 rfl ?_
              refine wp_callVp dX10_serves_48 mlX10_344 mvX6_gapAt (S_X6_gapAt hr (by omega)) rfl rfl (by decide) (by decide) rfl rfl rfl (Nat.le_of_ble_eq_true rfl) ?_
              rw [arnd_in (show p < gP (sG σ) by omega)]
              have vb := gapF_b gk p
              have cb := cntF_b (eqF (gapF (sG σ)) (gapF (sG σ) p)) (gP (sG σ)).toNat 0 0
              rw [svF] at hV
              generalize hv : gapF (sG σ) p = v at vb cb hV
              generalize ht : cntF (eqF (gapF (sG σ)) v) (gP (sG σ)).toNat 0 0 = t at cb hV
              refine wp_istore dX10_serves_51 (by decide) ?_
              refine wp_aload_n dX10_serves_53 rfl ?_
              refine wp_getC dX10_serves_54 flX10_85 rfl rfl ?_
              refine wp_iload dX10_serves_57 rfl ?_
              refine wp_callVp dX10_serves_59 mlX10_345 mvX6_turningsWith (S_X6_turningsWith hr (by first | assumption | (unfold InR; omega))) rfl rfl (by decide) (by decide) rfl rfl rfl (Nat.le_of_ble_eq_true rfl) ?_
              rw [ht]
              refine wp_istore dX10_serves_62 (by decide) ?_
              refine wp_iload dX10_serves_64 rfl ?_
              refine wp_iload_n dX10_serves_66 rfl ?_
              refine wp_icmpgt 85 dX10_serves_67 (by decide) (by first | assumption | (unfold InR; omega)) (by first | assumption | (unfold InR; omega)) (fun c67 => ?_) (fun c67 => ?_)
              · refine wp_iload dX10_serves_85 rfl ?_
                refine wp_istore_n dX10_serves_87 (by decide) ?_
                refine wp_iload dX10_serves_88 rfl ?_
                refine wp_istore_n dX10_serves_90 (by decide) ?_
                refine wp_iinc dX10_serves_91 rfl (by decide) ?_
                refine wp_goto 30 dX10_serves_94 (by decide) ?_
                refine wp_loc [(0, .ref (adr X 0)), (1, .int (iI w)), (2, .int (iI _)), (3, .int (iI _)), (4, .int (iI (p + 1)))] ⟨rfl, rfl, rfl, rfl, rfl, trivial⟩ ?_
                exact ih (p + 1) _ _ (by omega) (by omega) (by omega) (by omega) (by rw [hV]; first | rw [if_pos (Or.inl (by omega))] | rw [if_pos (Or.inr ⟨by omega, by assumption⟩)] | rw [if_neg (fun q => Or.elim q (fun q => by omega) (fun q => absurd q.2 (by assumption)))] | rw [if_neg (fun q => by omega)])
              · refine wp_iload dX10_serves_70 rfl ?_
                refine wp_iload_n dX10_serves_72 rfl ?_
                refine wp_icmpne 91 dX10_serves_73 (by decide) (by first | assumption | (unfold InR; omega)) (by first | assumption | (unfold InR; omega)) (fun c73 => ?_) (fun c73 => ?_)
                · refine wp_iinc dX10_serves_91 rfl (by decide) ?_
                  refine wp_goto 30 dX10_serves_94 (by decide) ?_
                  refine wp_loc [(0, .ref (adr X 0)), (1, .int (iI w)), (2, .int (iI _)), (3, .int (iI _)), (4, .int (iI (p + 1)))] ⟨rfl, rfl, rfl, rfl, rfl, trivial⟩ ?_
                  exact ih (p + 1) _ _ (by omega) (by omega) (by omega) (by omega) (by rw [hV]; first | rw [if_pos (Or.inl (by omega))] | rw [if_pos (Or.inr ⟨by omega, by assumption⟩)] | rw [if_neg (fun q => Or.elim q (fun q => by omega) (fun q => absurd q.2 (by assumption)))] | rw [if_neg (fun q => by omega)])
                · refine wp_iload dX10_serves_76 rfl ?_
                  refine wp_iload_n dX10_serves_78 rfl ?_
                  refine wp_callSp dX10_serves_79 mlX10_348 msX10_isNearer (S_X10_isNearer (by omega) (by omega)) rfl rfl (by decide) (by decide) (Nat.le_of_ble_eq_true rfl) ?_
                  refine wp_ifeqb 91 dX10_serves_82 (by decide) (fun c82 => ?_) (fun c82 => ?_)
                  · refine wp_iinc dX10_serves_91 rfl (by decide) ?_
                    refine wp_goto 30 dX10_serves_94 (by decide) ?_
                    refine wp_loc [(0, .ref (adr X 0)), (1, .int (iI w)), (2, .int (iI _)), (3, .int (iI _)), (4, .int (iI (p + 1)))] ⟨rfl, rfl, rfl, rfl, rfl, trivial⟩ ?_
                    exact ih (p + 1) _ _ (by omega) (by omega) (by omega) (by omega) (by rw [hV]; first | rw [if_pos (Or.inl (by omega))] | rw [if_pos (Or.inr ⟨by omega, by assumption⟩)] | rw [if_neg (fun q => Or.elim q (fun q => by omega) (fun q => absurd q.2 (by assumption)))] | rw [if_neg (fun q => by omega)])
                  · refine wp_iload dX10_serves_85 rfl ?_
                    refine wp_istore_n dX10_serves_87 (by decide) ?_
                    refine wp_iload dX10_serves_88 rfl ?_
                    refine wp_istore_n dX10_serves_90 (by decide) ?_
                    refine wp_iinc dX10_serves_91 rfl (by decide) ?_
                    refine wp_goto 30 dX10_serves_94 (by decide) ?_
                    refine wp_loc [(0, .ref (adr X 0)), (1, .int (iI w)), (2, .int (iI _)), (3, .int (iI _)), (4, .int (iI (p + 1)))] ⟨rfl, rfl, rfl, rfl, rfl, trivial⟩ ?_
                    exact ih (p + 1) _ _ (by omega) (by omega) (by omega) (by omega) (by rw [hV]; first | rw [if_pos (Or.inl (by omega))] | rw [if_pos (Or.inr ⟨by omega, by assumption⟩)] | rw [if_neg (fun q => Or.elim q (fun q => by omega) (fun q => absurd q.2 (by assumption)))] | rw [if_neg (fun q => by omega)])
        refine wp_loc [(0, .ref (adr X 0)), (1, .int (iI w)), (2, .int (iI 0)), (3, .int (iI 0)), (4, .int (iI 0))] ⟨rfl, rfl, rfl, rfl, rfl, trivial⟩ ?_
        exact L (gP (sG σ)).toNat 0 0 0 (by omega) (by omega) (by omega) (by omega) hV0
      · refine wp_ldc (z := -1000000) dX10_serves_16 kcX10_181 ?_
        exact wp_iret dX10_serves_18 rfl (⟨vi (by unfold qServes; rw [if_pos (by omega)]), a, sameM_rf h⟩)

