/-! the class: best, fault, text -/
theorem wrun_R {ρ : Int → Int} (hρ : ∀ x, InR (ρ x)) {c : List Int} (hw : ∀ i, WR (c.getD i 0)) : ∀ (n : Nat) (i : Int) (st : List Int), AllR st → InR (wrun ρ c n i st)
  | 0, i, st, a => inR_0
  | n + 1, i, st, a => by
    unfold wrun
    split
    · split
      · exact a.hd
      · split
        · exact wrun_R hρ hw n _ _ a.tl
        · exact wrun_R hρ hw n _ _ (a.ex hρ (hw _).R)
    · exact inR_0
def roG (G : Gdn) (p : Int) : Int → Int := ltr (gapF G p) p (tltF G p) (rchF G p 0 + rchF G p 1 + rchF G p 2 + rchF G p 3) (gP G)
def hldT (σ : Sg) : List Int := (sW σ).getD (sD σ).toNat []
def wthF (σ : Sg) (p : Int) : Int := if sD σ < 0 then iabs (gapF (sG σ) p) else wrF (roG (sG σ) p) (wCl (hldT σ))
theorem roG_R {G : Gdn} (g : GOK G) {p : Int} (hp : 0 ≤ p ∧ p < gP G) (x : Int) : InR (roG G p x) := by
  have h1 := gapF_b g p
  have h2 := tltF_b g p
  have h3 := rchF_b g p 0
  have h4 := rchF_b g p 1
  have h5 := rchF_b g p 2
  have h6 := rchF_b g p 3
  have h7 := g.b
  exact ltr_R (by unfold InR; omega) (by unfold InR; omega) (by unfold InR; omega) (by unfold InR; omega) (by unfold InR; omega) x
theorem hldT_at {σ : Sg} (o : SOK σ) (h : 0 ≤ sD σ) : (sW σ)[(sD σ).toNat]? = some (hldT σ) ∧ TOK (hldT σ) ∧ ∃ q, wRd (hldT σ) = .inr q := by
  have h1 := o.2.2.1
  have hl : (sD σ).toNat < (sW σ).length := by omega
  have e : (sW σ)[(sD σ).toNat]? = some (hldT σ) := by unfold hldT; rw [List.getD_eq_getElem?_getD, List.getElem?_eq_getElem hl]; rfl
  have hm : hldT σ ∈ sW σ := List.mem_of_getElem? e
  exact ⟨e, (o.2.1.2 _ hm).1, (o.2.1.2 _ hm).2⟩
theorem wthF_R {σ : Sg} (o : SOK σ) {p : Int} (hp : 0 ≤ p ∧ p < gP (sG σ)) : InR (wthF σ p) := by
  have gk := o.2.2.2.1
  unfold wthF
  by_cases h : sD σ < 0
  · rw [if_pos h]
    have := iabs_b (n := 396) (gapF_b gk p)
    unfold InR
    omega
  · rw [if_neg h]
    obtain ⟨-, tk, ⟨k, c⟩, hq⟩ := hldT_at o (by omega)
    obtain ⟨-, h2, h3⟩ := wRd_ok tk hq (roG (sG σ) p)
    rw [← h3]
    exact wrun_R (roG_R gk hp) h2 _ _ _ (fun x hx => by cases hx)
def SWs (c j : Nat) : Prop := 8 ≤ c ∧ c < 20 ∧ ((c % 3 = 2 ∧ j = 3) ∨ c % 3 = 1)
theorem AC.sws {h h' : Hp} {σ : Sg} (a : AC h σ) (o : SOK σ) (k : Kp SWs h h') : AC h' σ := a.keep o (fun c j hr => k.1 c j (by unfold SWs; unfold rs at hr; omega)) (by unfold hR; rw [k.2]) (by unfold hR; rw [k.2])
def bstF (w : Int → Int) : Nat → Int → Int → Int → Int × Int
  | 0, _, f, l => (f, l)
  | n + 1, p, f, l => if w p < l then bstF w n (p + 1) p (w p) else bstF w n (p + 1) f l
def qBest (σ : Sg) (w : Int) : Int := if 0 < gP (sG σ) ∧ 0 ≤ w ∧ w ≤ 1 then (if w = 0 then (bstF (wthF σ) (gP (sG σ) - 1).toNat 1 0 (wthF σ 0)).1 else (bstF (wthF σ) (gP (sG σ) - 1).toNat 1 0 (wthF σ 0)).2) else -1000000

set_option maxRecDepth 20000 in
theorem S_X10_worthOf {X : Cx} {h : Hp} {σ : Sg} {p : Int} (a : AC h σ) (o : SOK σ) (hp : 0 ≤ p ∧ p < gP (sG σ)) : Spec X mX10_worthOf 8 [.ref (adr X 0), .int (iI p)] h (fun rv h' => rv = some (.int (iI (wthF σ p))) ∧ Kp SWs h h') := by
  have g := a.gb o
  have hG := g.1
  have gk := o.2.2.2.1
  have gb := gk.b
  have gkb := gk.2.1
  have e4 : hI h (hR h 0 6) 4 = gP (sG σ) := a.2.2.2.2.1.1
  have e5 : hI h (hR h 0 6) 5 = gA (sG σ) := a.2.2.2.2.1.2.1
  have e6 : hI h (hR h 0 6) 6 = gK (sG σ) := a.2.2.2.2.1.2.2.1
  have he : hI h (hR h 0 6) 4 % 2 = 0 := by omega
  have gb2 := gapF_b gk p
  have d1 := a.2.2.1
  have db := o.2.2.1
  have wl := o.2.1.1
  refine spec_wp (Nat.le_of_ble_eq_true rfl) (by decide +kernel) ?_
  refine wp_loc [(0, .ref (adr X 0)), (1, .int (iI p))] ⟨rfl, rfl, trivial⟩ ?_
  refine wp_aload_n dX10_worthOf_0 rfl ?_
  refine wp_getM dX10_worthOf_1 flX10_46 rfl rfl ?_
  refine wp_iload_n dX10_worthOf_4 rfl ?_
  refine wp_callVp dX10_worthOf_5 mlX10_182 mvX3_gapAt (S_X3_gapAt g (by assumption) (by omega) (by omega)) rfl rfl (by decide) (by decide) (gs0 hG) rfl rfl (Nat.le_of_ble_eq_true rfl) ?_
  rw [a.gap o hp]
  refine wp_istore_n dX10_worthOf_8 (by decide) ?_
  refine wp_aload_n dX10_worthOf_9 rfl ?_
  refine wp_getI dX10_worthOf_10 flX10_40 rfl rfl ?_
  rw [d1]
  refine wp_iflt 28 dX10_worthOf_13 (by decide) (by unfold InR; omega) (fun c13 => ?_) (fun c13 => ?_)
  · refine wp_iload_n dX10_worthOf_28 rfl ?_
    refine wp_callSp dX10_worthOf_29 mlX10_222 msJ9_abs_0f7a4 (S_J9_abs_0f7a4 (by unfold InR; omega)) rfl rfl (by decide) (by decide) (Nat.le_of_ble_eq_true rfl) ?_
    exact wp_iret dX10_worthOf_32 rfl (⟨vi (by unfold wthF; rw [if_pos (by omega)]), Kp.rf h⟩)
  · refine wp_aload_n dX10_worthOf_16 rfl ?_
    refine wp_getI dX10_worthOf_17 flX10_40 rfl rfl ?_
    rw [d1]
    refine wp_aload_n dX10_worthOf_20 rfl ?_
    refine wp_getC dX10_worthOf_21 flX10_32 rfl rfl ?_
    refine wp_alen dX10_worthOf_24 (by first | rfl | exact gs1 hG | exact gs2 hG | exact gs3 hG | exact gs4 hG | exact ws1 hW | exact ws2 hW | assumption) (by decide) ?_
    refine wp_icmplt 33 dX10_worthOf_25 (by decide) (by unfold InR; omega) (by unfold InR; omega) (fun c25 => ?_) (fun c25 => ?_)
    · refine wp_aload_n dX10_worthOf_33 rfl ?_
      refine wp_getC dX10_worthOf_34 flX10_32 rfl rfl ?_
      refine wp_aload_n dX10_worthOf_37 rfl ?_
      refine wp_getI dX10_worthOf_38 flX10_40 rfl rfl ?_
      rw [d1]
      refine wp_aald (n := 4) dX10_worthOf_41 rfl (by omega) (by omega) ?_
      obtain ⟨ht, tk, ⟨k0, c0⟩, hq0⟩ := hldT_at o (by omega)
      obtain ⟨k, c, q1, q2, q3⟩ := a.2.1.2 _ _ ht
      obtain ⟨hc, hw, hv⟩ := wRd_ok tk q1 (roG (sG σ) p)
      obtain ⟨b, hb⟩ : ∃ b, b = 8 + 3 * (sD σ).toNat := ⟨_, rfl⟩
      rw [← hb]
      have hW : isW b := by unfold isW; omega
      refine wp_iload_n dX10_worthOf_42 rfl ?_
      refine wp_iload_n dX10_worthOf_43 rfl ?_
      refine wp_aload_n dX10_worthOf_44 rfl ?_
      refine wp_getM dX10_worthOf_45 flX10_46 rfl rfl ?_
      refine wp_iload_n dX10_worthOf_48 rfl ?_
      refine wp_callVp dX10_worthOf_49 mlX10_185 mvX3_tiltAt (S_X3_tiltAt g (by omega)) rfl rfl (by decide) (by decide) (gs0 hG) rfl rfl (Nat.le_of_ble_eq_true rfl) ?_
      refine wp_aload_n dX10_worthOf_52 rfl ?_
      refine wp_getM dX10_worthOf_53 flX10_46 rfl rfl ?_
      refine wp_iload_n dX10_worthOf_56 rfl ?_
      refine wp_callVp dX10_worthOf_57 mlX10_236 mvX3_reachOfAll (S_X3_reachOfAll g (by omega)) rfl rfl (by decide) (by decide) (gs0 hG) rfl rfl (Nat.le_of_ble_eq_true rfl) ?_
      refine wp_aload_n dX10_worthOf_60 rfl ?_
      refine wp_getM dX10_worthOf_61 flX10_46 rfl rfl ?_
      refine wp_getI dX10_worthOf_64 flX10_137 (gs0 hG) rfl ?_
      rw [a.tilt, a.rcE, a.rcE, a.rcE, a.rcE, e4]
      refine wp_callV dX10_worthOf_67 mlX10_239 mvX8_worth (S_X8_worth (a := b) hW ⟨by rw [hb]; exact q2, fun i hi => by rw [hb, show 8 + 3 * (sD σ).toNat + 1 = 9 + 3 * (sD σ).toNat by omega]; exact q3 i hi⟩ hc hw (roG_R gk hp) rfl) rfl rfl (by decide) (by decide) (ws0 hW) rfl rfl (Nat.le_of_ble_eq_true rfl) ?_
      rintro rv h1 ⟨rfl, kp⟩
      exact wp_iret dX10_worthOf_70 rfl (⟨vi (by unfold wthF; rw [if_neg (by omega)]; exact hv), kp.mono (fun c j q => by unfold SWs; unfold SK at q; unfold isW at hW; omega)⟩)
    · exact absurd c25 (by omega)

set_option maxRecDepth 20000 in
theorem S_X10_best {X : Cx} {h : Hp} {σ : Sg} (a : AC h σ) (o : SOK σ) {w : Int} (hw : InR w) : Spec X mX10_best 30 [.ref (adr X 0), .int (iI w)] h (fun rv h' => rv = some (.int (iI (qBest σ w))) ∧ AC h' σ ∧ sameM h h') := by
  have g := a.gb o
  have hG := g.1
  have gk := o.2.2.2.1
  have gb := gk.b
  have gkb := gk.2.1
  have e4 : hI h (hR h 0 6) 4 = gP (sG σ) := a.2.2.2.2.1.1
  have e5 : hI h (hR h 0 6) 5 = gA (sG σ) := a.2.2.2.2.1.2.1
  have e6 : hI h (hR h 0 6) 6 = gK (sG σ) := a.2.2.2.2.1.2.2.1
  have he : hI h (hR h 0 6) 4 % 2 = 0 := by omega
  refine spec_wp (Nat.le_of_ble_eq_true rfl) (by decide +kernel) ?_
  refine wp_loc [(0, .ref (adr X 0)), (1, .int (iI w))] ⟨rfl, rfl, trivial⟩ ?_
  refine wp_aload_n dX10_best_0 rfl ?_
  refine wp_callVp dX10_best_1 mlX10_148 mvX10_noGarden (S_X10_noGarden g) rfl rfl (by decide) (by decide) rfl rfl rfl (Nat.le_of_ble_eq_true rfl) ?_
  refine wp_ifneb 16 dX10_best_4 (by decide) (fun c4 => ?_) (fun c4 => ?_)
  · refine wp_ldc (z := -1000000) dX10_best_16 kcX10_181 ?_
    exact wp_iret dX10_best_18 rfl (⟨vi (by unfold qBest; rw [if_neg (by omega)]), a, sameM_rf h⟩)
  · refine wp_iload_n dX10_best_7 rfl ?_
    refine wp_iflt 16 dX10_best_8 (by decide) (by first | assumption | (unfold InR; omega)) (fun c8 => ?_) (fun c8 => ?_)
    · refine wp_ldc (z := -1000000) dX10_best_16 kcX10_181 ?_
      exact wp_iret dX10_best_18 rfl (⟨vi (by unfold qBest; rw [if_neg (by omega)]), a, sameM_rf h⟩)
    · refine wp_iload_n dX10_best_11 rfl ?_
      refine wp_iconst dX10_best_12 ?_
      refine wp_icmple 19 dX10_best_13 (by decide) (by first | assumption | (unfold InR; omega)) (by first | assumption | (unfold InR; omega)) (fun c13 => ?_) (fun c13 => ?_)
      · refine wp_iconst dX10_best_19 ?_
        refine wp_istore_n dX10_best_20 (by decide) ?_
        refine wp_aload_n dX10_best_21 rfl ?_
        refine wp_iconst dX10_best_22 ?_
        refine wp_callV dX10_best_23 mlX10_233 mvX10_worthOf (S_X10_worthOf (p := 0) a o (by have := gk.1; omega)) rfl rfl (by decide) (by decide) rfl rfl rfl (Nat.le_of_ble_eq_true rfl) ?_
        rintro rv h0 ⟨rfl, kp0⟩
        have a0 := a.sws o kp0
        refine wp_istore_n dX10_best_26 (by decide) ?_
        refine wp_iconst dX10_best_27 ?_
        refine wp_istore dX10_best_28 (by decide) ?_
        have hP : 4 ≤ gP (sG σ) := by have := gk.1; omega
        obtain ⟨R, hRR⟩ : ∃ R, R = bstF (wthF σ) (gP (sG σ) - 1).toNat 1 0 (wthF σ 0) := ⟨_, rfl⟩
        have L : ∀ (n : Nat) (p f l : Int) (h1 : Hp), (p + n = gP (sG σ) ∧ 1 ≤ p) → (InR f ∧ InR l) → (AC h1 σ) → (Kp SWs h h1) → (bstF (wthF σ) n p f l = R) → WP X mX10_best 30 30 [(0, .ref (adr X 0)), (1, .int (iI w)), (2, .int (iI f)), (3, .int (iI l)), (4, .int (iI p))] [] h1 (fun rv h' => rv = some (.int (iI (qBest σ w))) ∧ AC h' σ ∧ sameM h h') := by
          intro n
          induction n with
          | zero =>
            intro p f l h1 hn hfl a1 kp hV
            have hG1 := (a1.gb o).1
            have e41 : hI h1 (hR h1 0 6) 4 = gP (sG σ) := a1.2.2.2.2.1.1
            refine wp_iload dX10_best_30 rfl ?_
            refine wp_aload_n dX10_best_32 rfl ?_
            refine wp_getM dX10_best_33 flX10_46 rfl rfl ?_
            refine wp_getI dX10_best_36 flX10_137 (gs0 hG1) rfl ?_
            rw [e41]
            refine wp_icmpge 68 dX10_best_39 (by decide) (by first | assumption | (unfold InR; omega)) (by first | assumption | (unfold InR; omega)) (fun c39 => ?_) (fun c39 => ?_)
            · refine wp_iload_n dX10_best_68 rfl ?_
              refine wp_ifne 76 dX10_best_69 (by decide) (by first | assumption | (unfold InR; omega)) (fun c69 => ?_) (fun c69 => ?_)
              · refine wp_iload_n dX10_best_76 rfl ?_
                exact wp_iret dX10_best_77 rfl (by
          have hV : (f, l) = R := hV
          exact ⟨vi (by unfold qBest; rw [if_pos (by omega), if_neg c69, ← hRR, ← hV]), a1, kp.M (by unfold SWs; omega)⟩)
              · refine wp_iload_n dX10_best_72 rfl ?_
                refine wp_goto 77 dX10_best_73 (by decide) ?_
                exact wp_iret dX10_best_77 rfl (by
          have hV : (f, l) = R := hV
          exact ⟨vi (by unfold qBest; rw [if_pos (by omega), if_pos c69, ← hRR, ← hV]), a1, kp.M (by unfold SWs; omega)⟩)
            · exact absurd c39 (by omega)
          | succ n ih =>
            intro p f l h1 hn hfl a1 kp hV
            have hG1 := (a1.gb o).1
            have e41 : hI h1 (hR h1 0 6) 4 = gP (sG σ) := a1.2.2.2.2.1.1
            refine wp_iload dX10_best_30 rfl ?_
            refine wp_aload_n dX10_best_32 rfl ?_
            refine wp_getM dX10_best_33 flX10_46 rfl rfl ?_
            refine wp_getI dX10_best_36 flX10_137 (gs0 hG1) rfl ?_
            rw [e41]
            refine wp_icmpge 68 dX10_best_39 (by decide) (by unfold InR; omega) (by unfold InR; omega) (fun c39 => ?_) (fun c39 => ?_)
            · exact absurd c39 (by omega)
            · refine wp_aload_n dX10_best_42 rfl ?_
              refine wp_iload dX10_best_43 rfl ?_
              have wr := wthF_R o (p := p) (by omega)
              refine wp_callV dX10_best_45 mlX10_233 mvX10_worthOf (S_X10_worthOf (p := p) a1 o (by omega)) rfl rfl (by decide) (by decide) rfl rfl rfl (Nat.le_of_ble_eq_true rfl) ?_
              rintro rv h2 ⟨rfl, kp2⟩
              have a2 := a1.sws o kp2
              refine wp_istore dX10_best_48 (by decide) ?_
              rw [bstF] at hV
              refine wp_iload dX10_best_50 rfl ?_
              refine wp_iload_n dX10_best_52 rfl ?_
              refine wp_icmpge 62 dX10_best_53 (by decide) wr hfl.2 (fun c53 => ?_) (fun c53 => ?_)
              · refine wp_iinc dX10_best_62 rfl (by decide) ?_
                refine wp_goto 30 dX10_best_65 (by decide) ?_
                rw [if_neg (by omega)] at hV
                refine wp_loc [(0, .ref (adr X 0)), (1, .int (iI w)), (2, .int (iI f)), (3, .int (iI l)), (4, .int (iI (p + 1)))] ⟨rfl, rfl, rfl, rfl, rfl, trivial⟩ ?_
                exact ih (p + 1) f l _ (by omega) hfl a2 (kp.tr kp2) hV
              · refine wp_iload dX10_best_56 rfl ?_
                refine wp_istore_n dX10_best_58 (by decide) ?_
                refine wp_iload dX10_best_59 rfl ?_
                refine wp_istore_n dX10_best_61 (by decide) ?_
                refine wp_iinc dX10_best_62 rfl (by decide) ?_
                refine wp_goto 30 dX10_best_65 (by decide) ?_
                rw [if_pos (by omega)] at hV
                refine wp_loc [(0, .ref (adr X 0)), (1, .int (iI w)), (2, .int (iI p)), (3, .int (iI (wthF σ p))), (4, .int (iI (p + 1)))] ⟨rfl, rfl, rfl, rfl, rfl, trivial⟩ ?_
                exact ih (p + 1) p (wthF σ p) _ (by omega) ⟨by unfold InR; omega, wr⟩ a2 (kp.tr kp2) hV
        refine wp_loc [(0, .ref (adr X 0)), (1, .int (iI w)), (2, .int (iI 0)), (3, .int (iI (wthF σ 0))), (4, .int (iI 1))] ⟨rfl, rfl, rfl, rfl, rfl, trivial⟩ ?_
        exact L (gP (sG σ) - 1).toNat 1 0 (wthF σ 0) _ (by omega) ⟨inR_0, wthF_R o (by omega)⟩ a0 kp0 hRR.symm
      · refine wp_ldc (z := -1000000) dX10_best_16 kcX10_181 ?_
        exact wp_iret dX10_best_18 rfl (⟨vi (by unfold qBest; rw [if_neg (by omega)]), a, sameM_rf h⟩)

theorem AC.keepD {h h' : Hp} {σ : Sg} (a : AC h σ) (o : SOK σ) (hb9 : HB h' (hR h 0 7)) (hk : ∀ c j, rs c j → ¬ (hR h 0 7 ≤ c ∧ c ≤ hR h 0 7 + 4) → hI h' c j = hI h c j) (h6 : hR h' 0 6 = hR h 0 6) (h7 : hR h' 0 7 = hR h 0 7) : AC h' σ := by
  have hg : hR h 0 6 = 20 ∨ hR h 0 6 = 25 := by rcases a.2.2.2.1.1 with q | q <;> omega
  have hb0 := a.2.2.2.1.b
  have hw4 := o.2.1.1
  obtain ⟨⟨t1, t2⟩, ⟨w1, w2⟩, d1, r1, ⟨g1, g2, g3, g4, g5, g6, g7⟩, ⟨k1, k2⟩, ⟨c1, c2, c3, c4⟩, ⟨i1, i2⟩, ⟨b1, b2⟩⟩ := a
  have lie : ∀ (P : Int) (x y : Nat) (l : Lie) (b : Nat), (b = 34 ∨ b = 35) → lieAt h P b x b y l → lieAt h' P b x b y l := by
    intro P x y l b hb q
    exact ⟨fun i hi => by rw [hk b _ (by unfold rs; omega) (by omega)]; exact q.1 i hi, fun i hi => by rw [hk b _ (by unfold rs; omega) (by omega)]; exact q.2 i hi⟩
  have hb7 := r1.b
  have r2 : GR h' := by
    unfold GR
    rw [h6, h7]
    exact ⟨r1.1, hb9⟩
  unfold AC
  rw [h6]
  refine ⟨⟨?_, fun i hi => ?_⟩, ⟨?_, fun w t ht => ?_⟩, ?_, r2, ⟨?_, ?_, ?_, fun i hi => ?_, ?_, ?_, fun hp s hs => ?_⟩, ⟨?_, fun i q hq => ?_⟩, ⟨?_, ?_, ?_, fun k l hl => ?_⟩, ⟨?_, fun l hl => ?_⟩, ⟨?_, fun hb => ?_⟩⟩
  · rw [hk 1 1 (by unfold rs; omega) (by omega)]; exact t1
  · rw [hk 2 i (by unfold rs; omega) (by omega)]; exact t2 i hi
  · rw [hk 0 4 (by unfold rs; omega) (by omega)]; exact w1
  · obtain ⟨k, c, q1, q2, q3⟩ := w2 w t ht
    have hwl : w < (sW σ).length := (List.getElem?_eq_some_iff.mp ht).1
    refine ⟨k, c, q1, by rw [hk _ 1 (by unfold rs; omega) (by omega)]; exact q2, fun i hi => by rw [hk _ i (by unfold rs; omega) (by omega)]; exact q3 i hi⟩
  · rw [hk 0 5 (by unfold rs; omega) (by omega)]; exact d1
  · rw [hk _ 4 (by unfold rs; omega) (by omega)]; exact g1
  · rw [hk _ 5 (by unfold rs; omega) (by omega)]; exact g2
  · rw [hk _ 6 (by unfold rs; omega) (by omega)]; exact g3
  · rw [hk _ i (by unfold rs; omega) (by omega)]; exact g4 i hi
  · rw [← g5]; funext i; unfold htO; rw [hk _ 4 (by unfold rs; omega) (by omega), hk _ i.toNat (by unfold rs; omega) (by omega)]
  · rw [← g6]; funext i; unfold shO; rw [hk _ i.toNat (by unfold rs; omega) (by omega)]
  · rw [hk _ s (by unfold rs; omega) (by omega), hk _ s (by unfold rs; omega) (by omega)]; exact g7 hp s hs
  · rw [hk 30 2 (by unfold rs; omega) (by omega)]; exact k1
  · rw [hk 31 i (by unfold rs; omega) (by omega), hk 32 i (by unfold rs; omega) (by omega)]; exact k2 i q hq
  · rw [hk 33 2 (by unfold rs; omega) (by omega)]; exact c1
  · rw [hk 33 1 (by unfold rs; omega) (by omega)]; exact c2
  · rw [hk 33 1 (by unfold rs; omega) (by omega)]; exact c3
  · rw [hk 33 1 (by unfold rs; omega) (by omega)]
    refine ⟨lie _ _ _ _ 34 (Or.inl rfl) (c4 k l hl).1, fun i hi => ?_⟩
    rw [hk 34 _ (by unfold rs; omega) (by omega)]
    exact (c4 k l hl).2 i hi
  · rw [hk 0 11 (by unfold rs; omega) (by omega)]; exact i1
  · refine ⟨lie _ _ _ _ 35 (Or.inr rfl) (i2 l hl).1, fun i hi => ?_⟩
    rw [hk 35 _ (by unfold rs; omega) (by omega)]
    exact (i2 l hl).2 i hi
  · rw [hk 36 5 (by unfold rs; omega) (by omega)]; exact b1
  · rw [hk 36 5 (by unfold rs; omega) (by omega)] at hb
    rw [hk 36 4 (by unfold rs; omega) (by omega)]
    refine ⟨(b2 hb).1, fun s s1 s2 => ?_⟩
    rw [hk 37 _ (by unfold rs; omega) (by omega), hk 38 _ (by unfold rs; omega) (by omega), hk 39 _ (by unfold rs; omega) (by omega), hk 40 _ (by unfold rs; omega) (by omega)]
    exact (b2 hb).2 s s1 s2
def rFault (σ : Sg) (s : Int) : Int := if s = 0 then rdV (gRd (sT σ)) else if s = 1 then wdV (wRd (sT σ)) else -2
theorem AC.hb {h : Hp} {σ : Sg} (a : AC h σ) : HB h (hR h 0 7) := a.2.2.2.1.2
theorem AC.sg {h h' : Hp} {σ : Sg} (a : AC h σ) (o : SOK σ) (hb : HB h' (hR h 0 7)) (k : Kp (SG (hR h 0 7)) h h') : AC h' σ := AC.keepD a o hb (fun c j hr hd => k.1 c j (by unfold SG; unfold rs at hr; omega)) (by unfold hR; rw [k.2]) (by unfold hR; rw [k.2])
theorem AC.sw {h h' : Hp} {σ : Sg} (a : AC h σ) (o : SOK σ) (k : Kp SW h h') : AC h' σ := a.keep o (fun c j hr => k.1 c j (by unfold SW; unfold rs at hr; omega)) (by unfold hR; rw [k.2]) (by unfold hR; rw [k.2])
theorem SG_M {h h' : Hp} {a : Nat} (ha : a = 20 ∨ a = 25) (k : Kp (SG a) h h') : sameM h h' := k.M (by unfold SG; omega)
theorem SW_M {h h' : Hp} (k : Kp SW h h') : sameM h h' := k.M (by unfold SW; omega)

set_option maxRecDepth 20000 in
theorem S_X10_fault {X : Cx} {h : Hp} {σ : Sg} (hx : XOK X) (a : AC h σ) (o : SOK σ) {s : Int} (hs : InR s) : Spec X mX10_fault 30 [.ref (adr X 0), .int (iI s)] h (fun rv h' => rv = some (.int (iI (rFault σ s))) ∧ AC h' σ ∧ sameM h h') := by
  have hG7 : isG (hR h 0 7) := a.2.2.2.1.b.2.1
  refine spec_wp (Nat.le_of_ble_eq_true rfl) (by decide +kernel) ?_
  refine wp_loc [(0, .ref (adr X 0)), (1, .int (iI s))] ⟨rfl, rfl, trivial⟩ ?_
  refine wp_iload_n dX10_fault_0 rfl ?_
  refine wp_ifne 20 dX10_fault_1 (by decide) (by first | assumption | (unfold InR; omega)) (fun c1 => ?_) (fun c1 => ?_)
  · refine wp_iload_n dX10_fault_20 rfl ?_
    refine wp_iconst dX10_fault_21 ?_
    refine wp_icmpne 39 dX10_fault_22 (by decide) (by first | assumption | (unfold InR; omega)) (by first | assumption | (unfold InR; omega)) (fun c22 => ?_) (fun c22 => ?_)
    · refine wp_bipush dX10_fault_39 rfl ?_
      exact wp_iret dX10_fault_41 rfl (⟨vi (by unfold rFault; rw [if_neg c1, if_neg c22]), a, sameM_rf h⟩)
    · refine wp_aload_n dX10_fault_25 rfl ?_
      refine wp_getC dX10_fault_26 flX10_26 rfl rfl ?_
      refine wp_aload_n dX10_fault_29 rfl ?_
      refine wp_getC dX10_fault_30 flX10_10 rfl rfl ?_
      refine wp_callV dX10_fault_33 mlX10_118 mvX9_read (S_X9_read a.tp o.1 rfl) rfl rfl (by decide) (by decide) rfl rfl rfl (Nat.le_of_ble_eq_true rfl) ?_
      rintro rv h1 ⟨rfl, g1, kp1⟩
      have a1 := a.sw o kp1
      refine wp_goto 41 dX10_fault_36 (by decide) ?_
      exact wp_iret dX10_fault_41 rfl (⟨vi (by unfold rFault; rw [if_neg c1, if_pos c22]), a1, SW_M kp1⟩)
  · refine wp_aload_n dX10_fault_4 rfl ?_
    refine wp_getC dX10_fault_5 flX10_19 rfl rfl ?_
    refine wp_aload_n dX10_fault_8 rfl ?_
    refine wp_getC dX10_fault_9 flX10_10 rfl rfl ?_
    refine wp_aload_n dX10_fault_12 rfl ?_
    refine wp_getM dX10_fault_13 flX10_50 rfl rfl ?_
    refine wp_callV dX10_fault_16 mlX10_114 mvX4_read (S_X4_read hx hG7 a.tp o.1 a.hb rfl) rfl rfl (by decide) (by decide) rfl rfl rfl (Nat.le_of_ble_eq_true rfl) ?_
    rintro rv h1 ⟨rfl, g1, hb1, kp1⟩
    have a1 := a.sg o hb1 kp1
    exact wp_iret dX10_fault_19 rfl (⟨vi (by unfold rFault; rw [if_pos c1]), a1, SG_M hG7 kp1⟩)

def nGd (σ : Sg) (G : Gdn) : Sg := ([], sW σ, -1, G, [], [], none)
def nWs (σ : Sg) : Sg := ([], sW σ ++ [sT σ], σ.2.2)
theorem b2i_rng (c : Prop) [Decidable c] : b2i c = 0 ∨ b2i c = 1 := b2i_z

set_option maxRecDepth 20000 in
theorem S_X10_takeGarden {X : Cx} {h : Hp} {σ : Sg} {q : GS} (a : AC h σ) (o : SOK σ) (g : DG h (hR h 0 7) q) (hq : GSOK q) : Spec X mX10_takeGarden 2 [.ref (adr X 0)] h (fun rv h' => rv = some (.int (iI (gP (gOf q)))) ∧ AC h' (nGd σ (gOf q)) ∧ sameM h h') := by
  have gr := a.2.2.2.1
  have gb := gr.b
  have hG6 : isG (hR h 0 6) := gb.1
  have hG7 : isG (hR h 0 7) := gb.2.1
  have g4 := g.1
  obtain ⟨x, hx6⟩ : ∃ x, x = hR h 0 6 := ⟨_, rfl⟩
  obtain ⟨y, hy7⟩ : ∃ y, y = hR h 0 7 := ⟨_, rfl⟩
  rw [← hx6] at gb hG6
  rw [← hy7] at gb hG7 g g4
  refine spec_wp (Nat.le_of_ble_eq_true rfl) (by decide +kernel) ?_
  refine wp_loc [(0, .ref (adr X 0))] ⟨rfl, trivial⟩ ?_
  skip
  refine wp_aload_n dX10_takeGarden_0 rfl ?_
  refine wp_getM dX10_takeGarden_1 flX10_50 rfl rfl ?_
  rw [← hy7]
  refine wp_astore_n dX10_takeGarden_4 (by decide) ?_
  refine wp_aload_n dX10_takeGarden_5 rfl ?_
  refine wp_aload_n dX10_takeGarden_6 rfl ?_
  refine wp_getM dX10_takeGarden_7 flX10_46 rfl rfl ?_
  rw [← hx6]
  refine wp_putM dX10_takeGarden_10 plX10_50 rfl rfl rfl rfl ?_
  refine wp_aload_n dX10_takeGarden_13 rfl ?_
  refine wp_aload_n dX10_takeGarden_14 rfl ?_
  refine wp_putM dX10_takeGarden_15 plX10_46 rfl rfl rfl rfl ?_
  refine wp_aload_n dX10_takeGarden_18 rfl ?_
  refine wp_iconst dX10_takeGarden_19 ?_
  refine wp_putI dX10_takeGarden_20 plX10_40 rfl rfl ?_
  refine wp_aload_n dX10_takeGarden_23 rfl ?_
  refine wp_iconst dX10_takeGarden_24 ?_
  refine wp_putZ dX10_takeGarden_25 plX10_71 rfl rfl (Or.inl rfl) ?_
  refine wp_aload_n dX10_takeGarden_28 rfl ?_
  refine wp_getC dX10_takeGarden_29 flX10_56 rfl rfl ?_
  refine wp_iconst dX10_takeGarden_32 ?_
  refine wp_putI dX10_takeGarden_33 plX10_128 rfl rfl ?_
  refine wp_aload_n dX10_takeGarden_36 rfl ?_
  refine wp_getC dX10_takeGarden_37 flX10_63 rfl rfl ?_
  refine wp_callVv dX10_takeGarden_40 mlX10_131 mvX0_forget (S_X0_forget) rfl rfl (by decide) (by decide) rfl rfl rfl (Nat.le_of_ble_eq_true rfl) ?_
  refine wp_aload_n dX10_takeGarden_43 rfl ?_
  refine wp_getC dX10_takeGarden_44 flX10_78 rfl rfl ?_
  refine wp_iconst dX10_takeGarden_47 ?_
  refine wp_putZ dX10_takeGarden_48 plX10_134 rfl rfl (Or.inl rfl) ?_
  refine wp_aload_n dX10_takeGarden_51 rfl ?_
  refine wp_getC dX10_takeGarden_52 flX10_10 rfl rfl ?_
  refine wp_iconst dX10_takeGarden_55 ?_
  refine wp_putI dX10_takeGarden_56 plX10_107 rfl rfl ?_
  refine wp_aload_n dX10_takeGarden_59 rfl ?_
  refine wp_getM dX10_takeGarden_60 flX10_46 rfl rfl ?_
  rw [show hR (sI (sI (sI (sI (sI (sI (sI (sR (sR h 0 7 x) 0 6 y) 0 5 (-1)) 0 11 0) 30 2 0) 33 1 0) 33 2 0) 36 5 0) 1 1 0) 0 6 = y from rfl]
  obtain ⟨h9, hh9⟩ : ∃ h9, h9 = sI (sI (sI (sI (sI (sI (sI (sR (sR h 0 7 x) 0 6 y) 0 5 (-1)) 0 11 0) 30 2 0) 33 1 0) 33 2 0) 36 5 0) 1 1 0 := ⟨_, rfl⟩
  rw [← hh9]
  have k9 : ∀ c j, ¬ ((c = 0 ∧ (j = 5 ∨ j = 11)) ∨ (c = 30 ∧ j = 2) ∨ (c = 33 ∧ (j = 1 ∨ j = 2)) ∨ (c = 36 ∧ j = 5) ∨ (c = 1 ∧ j = 1)) → hI h9 c j = hI h c j := fun c j z => by rw [hh9, hI_sI, if_neg (by omega), hI_sI, if_neg (by omega), hI_sI, if_neg (by omega), hI_sI, if_neg (by omega), hI_sI, if_neg (by omega), hI_sI, if_neg (by omega), hI_sI, if_neg (by omega), hI_sR, hI_sR]
  refine wp_getI dX10_takeGarden_63 flX10_137 (gs0 hG7) rfl ?_
  rw [k9 _ _ (by omega), g4]
  exact wp_iret dX10_takeGarden_66 rfl (by
  have r6 : hR h9 0 6 = y := by rw [hh9]; rfl
  have r7 : hR h9 0 7 = x := by rw [hh9]; rfl
  refine ⟨rfl, ?_, fun c hc => ⟨by funext j; exact k9 c j (by omega), by rw [hh9]; rfl, by
    rw [hh9]
    funext j
    show up2 (up2 h.2.2 0 7 x) 0 6 y c j = h.2.2 c j
    unfold up2
    rw [if_neg (by omega), if_neg (by omega)]⟩⟩
  obtain ⟨d1, d2, d3, d4, d5, d6, d7⟩ := g
  obtain ⟨⟨t1, t2⟩, ⟨w1, w2⟩, -, -, ⟨-, -, -, q8, -, -, -⟩, -, -, -, -⟩ := a
  have hw4 := o.2.1.1
  rw [← hx6] at q8
  unfold AC
  rw [r6]
  refine ⟨⟨?_, fun i hi => absurd hi (Nat.not_lt_zero i)⟩, ⟨?_, fun w t ht => ?_⟩, ?_, ?_, ⟨?_, ?_, ?_, fun i hi => ?_, ?_, ?_, fun hp s hs => ?_⟩, ⟨?_, fun i q hq => by cases hq⟩, ⟨?_, ?_, ?_, fun k l hl => by cases hl⟩, ⟨?_, fun l hl => by cases hl⟩, ⟨?_, fun hb => ?_⟩⟩
  · rw [hh9, hI_same]; rfl
  · rw [k9 0 4 (by omega)]; exact w1
  · obtain ⟨k, c, q1, q2, q3⟩ := w2 w t ht
    have hwl : w < (sW σ).length := (List.getElem?_eq_some_iff.mp ht).1
    refine ⟨k, c, q1, by rw [k9 _ 1 (by omega)]; exact q2, fun i hi => by rw [k9 _ i (by omega)]; exact q3 i hi⟩
  · rw [hh9, hI_sI, if_neg (by omega), hI_sI, if_neg (by omega), hI_sI, if_neg (by omega), hI_sI, if_neg (by omega), hI_sI, if_neg (by omega), hI_sI, if_neg (by omega), hI_same]; rfl
  · unfold GR
    rw [r6, r7]
    exact ⟨by omega, fun i hi => by rw [k9 _ i (by omega)]; exact q8 i hi⟩
  · rw [k9 _ 4 (by omega)]; exact d1
  · rw [k9 _ 5 (by omega)]; exact d2
  · rw [k9 _ 6 (by omega)]; exact d3
  · rw [k9 _ i (by omega)]; have := gr.2 i hi; rw [← hy7] at this; exact this
  · funext i
    unfold htO
    rw [k9 _ 4 (by omega), d1]
    show _ = if 0 ≤ i ∧ i < (q.1.length : Int) then q.1.getD i.toNat 0 else 0
    by_cases hc : 0 ≤ i ∧ i < (q.1.length : Int)
    · rw [if_pos hc, if_pos hc, k9 _ _ (by omega), d4 _ (by omega)]
    · rw [if_neg hc, if_neg hc]
  · funext l
    unfold shO
    show _ = if 0 ≤ l ∧ l < 4 then gIt q (l + 1) else 0
    by_cases hc : 0 ≤ l ∧ l < 4
    · rw [if_pos hc, if_pos hc, k9 _ _ (by omega), d5 _ (by omega), show ((l.toNat : Nat) : Int) = l by omega]
    · rw [if_neg hc, if_neg hc]
  · rw [k9 _ s (by omega), k9 _ s (by omega), (d6 s hs).1, (d6 s hs).2]
    show _ = (if 0 ≤ (s : Int) ∧ (s : Int) < (q.2.2.length : Int) then (q.2.2.getD (s : Int).toNat (1, 0)).1 else 1) ∧ _ = (if 0 ≤ (s : Int) ∧ (s : Int) < (q.2.2.length : Int) then (q.2.2.getD (s : Int).toNat (1, 0)).2 else 0)
    by_cases hc : 0 ≤ (s : Int) ∧ (s : Int) < (q.2.2.length : Int)
    · rw [if_pos hc, if_pos hc]; exact ⟨rfl, rfl⟩
    · rw [if_neg hc, if_neg hc, List.getD_eq_getElem?_getD, List.getElem?_eq_none (by omega)]; exact ⟨rfl, rfl⟩
  · rw [hh9, hI_sI, if_neg (by omega), hI_sI, if_neg (by omega), hI_sI, if_neg (by omega), hI_sI, if_neg (by omega), hI_same]; rfl
  · rw [hh9, hI_sI, if_neg (by omega), hI_sI, if_neg (by omega), hI_same]; rfl
  · rw [hh9, hI_sI, if_neg (by omega), hI_sI, if_neg (by omega), hI_sI, if_neg (by omega), hI_same]; omega
  · rw [hh9, hI_sI, if_neg (by omega), hI_sI, if_neg (by omega), hI_sI, if_neg (by omega), hI_same]; omega
  · rw [hh9, hI_sI, if_neg (by omega), hI_sI, if_neg (by omega), hI_sI, if_neg (by omega), hI_sI, if_neg (by omega), hI_sI, if_neg (by omega), hI_same]; rfl
  · rw [hh9, hI_sI, if_neg (by omega), hI_same]; exact Or.inl rfl
  · rw [hh9, hI_sI, if_neg (by omega), hI_same] at hb; cases hb)

theorem AC.setW {h h' : Hp} {σ : Sg} {tt : List Int} {ww : List (List Int)} (a : AC h σ) (o : SOK σ) (tp : TPh h' tt) (hw1 : hI h' 0 4 = ww.length) (hw2 : ∀ (w : Nat) (t : List Int), ww[w]? = some t → ∃ k c, wRd t = .inr (k, c) ∧ hI h' (8 + 3 * w) 1 = c.length ∧ ∀ i : Nat, i < c.length → hI h' (9 + 3 * w) i = c.getD i 0) (hk : ∀ c j, rs c j → ¬ ((c = 0 ∧ j = 4) ∨ c = 1 ∨ c = 2 ∨ (8 ≤ c ∧ c < 20)) → hI h' c j = hI h c j) (h6 : hR h' 0 6 = hR h 0 6) (h7 : hR h' 0 7 = hR h 0 7) : AC h' (tt, ww, σ.2.2) := by
  have hg : hR h 0 6 = 20 ∨ hR h 0 6 = 25 := by rcases a.2.2.2.1.1 with q | q <;> omega
  have hw4 := o.2.1.1
  obtain ⟨⟨t1, t2⟩, ⟨w1, w2⟩, d1, r1, ⟨g1, g2, g3, g4, g5, g6, g7⟩, ⟨k1, k2⟩, ⟨c1, c2, c3, c4⟩, ⟨i1, i2⟩, ⟨b1, b2⟩⟩ := a
  have lie : ∀ (P : Int) (x y : Nat) (l : Lie) (b : Nat), (b = 34 ∨ b = 35) → lieAt h P b x b y l → lieAt h' P b x b y l := by
    intro P x y l b hb q
    exact ⟨fun i hi => by rw [hk b _ (by unfold rs; omega) (by omega)]; exact q.1 i hi, fun i hi => by rw [hk b _ (by unfold rs; omega) (by omega)]; exact q.2 i hi⟩
  have hb7 := r1.b
  have r2 : GR h' := r1.keep h6 h7 (fun i hi => hk _ i (by unfold rs; omega) (by omega))
  unfold AC
  rw [h6]
  refine ⟨tp, ⟨hw1, hw2⟩, ?_, r2, ⟨?_, ?_, ?_, fun i hi => ?_, ?_, ?_, fun hp s hs => ?_⟩, ⟨?_, fun i q hq => ?_⟩, ⟨?_, ?_, ?_, fun k l hl => ?_⟩, ⟨?_, fun l hl => ?_⟩, ⟨?_, fun hb => ?_⟩⟩
  · rw [hk 0 5 (by unfold rs; omega) (by omega)]; exact d1
  · rw [hk _ 4 (by unfold rs; omega) (by omega)]; exact g1
  · rw [hk _ 5 (by unfold rs; omega) (by omega)]; exact g2
  · rw [hk _ 6 (by unfold rs; omega) (by omega)]; exact g3
  · rw [hk _ i (by unfold rs; omega) (by omega)]; exact g4 i hi
  · refine Eq.trans ?_ g5; funext i; unfold htO; rw [hk _ 4 (by unfold rs; omega) (by omega), hk _ i.toNat (by unfold rs; omega) (by omega)]
  · refine Eq.trans ?_ g6; funext i; unfold shO; rw [hk _ i.toNat (by unfold rs; omega) (by omega)]
  · rw [hk _ s (by unfold rs; omega) (by omega), hk _ s (by unfold rs; omega) (by omega)]; exact g7 hp s hs
  · rw [hk 30 2 (by unfold rs; omega) (by omega)]; exact k1
  · rw [hk 31 i (by unfold rs; omega) (by omega), hk 32 i (by unfold rs; omega) (by omega)]; exact k2 i q hq
  · rw [hk 33 2 (by unfold rs; omega) (by omega)]; exact c1
  · rw [hk 33 1 (by unfold rs; omega) (by omega)]; exact c2
  · rw [hk 33 1 (by unfold rs; omega) (by omega)]; exact c3
  · rw [hk 33 1 (by unfold rs; omega) (by omega)]
    refine ⟨lie _ _ _ _ 34 (Or.inl rfl) (c4 k l hl).1, fun i hi => ?_⟩
    rw [hk 34 _ (by unfold rs; omega) (by omega)]
    exact (c4 k l hl).2 i hi
  · rw [hk 0 11 (by unfold rs; omega) (by omega)]; exact i1
  · refine ⟨lie _ _ _ _ 35 (Or.inr rfl) (i2 l hl).1, fun i hi => ?_⟩
    rw [hk 35 _ (by unfold rs; omega) (by omega)]
    exact (i2 l hl).2 i hi
  · rw [hk 36 5 (by unfold rs; omega) (by omega)]; exact b1
  · rw [hk 36 5 (by unfold rs; omega) (by omega)] at hb
    rw [hk 36 4 (by unfold rs; omega) (by omega)]
    refine ⟨(b2 hb).1, fun s s1 s2 => ?_⟩
    rw [hk 37 _ (by unfold rs; omega) (by omega), hk 38 _ (by unfold rs; omega) (by omega), hk 39 _ (by unfold rs; omega) (by omega), hk 40 _ (by unfold rs; omega) (by omega)]
    exact (b2 hb).2 s s1 s2
set_option maxRecDepth 20000 in
theorem S_X10_takeWish {X : Cx} {h : Hp} {σ : Sg} {k : Nat} {c : List Int} (a : AC h σ) (o : SOK σ) (hc : wRd (sT σ) = .inr (k, c)) (cw : CW h c) : Spec X mX10_takeWish 4 [.ref (adr X 0)] h (fun rv h' => rv = some (.int (iI (if (sW σ).length < 4 then ((sW σ).length : Int) else -1))) ∧ AC h' (if (sW σ).length < 4 then nWs σ else σ) ∧ sameM h h') := by
  have w1 := a.2.1.1
  have wl := o.2.1.1
  have c1 := cw.1
  have c160 := (wRd_ok o.1 hc (fun _ => 0)).1
  have gb := a.2.2.2.1.b
  refine spec_wp (Nat.le_of_ble_eq_true rfl) (by decide +kernel) ?_
  refine wp_loc [(0, .ref (adr X 0))] ⟨rfl, trivial⟩ ?_
  refine wp_aload_n dX10_takeWish_0 rfl ?_
  refine wp_getI dX10_takeWish_1 flX10_36 rfl rfl ?_
  rw [w1]
  refine wp_iflt 19 dX10_takeWish_4 (by decide) (by unfold InR; omega) (fun c4 => ?_) (fun c4 => ?_)
  · exact absurd c4 (by omega)
  · refine wp_aload_n dX10_takeWish_7 rfl ?_
    refine wp_getI dX10_takeWish_8 flX10_36 rfl rfl ?_
    rw [w1]
    refine wp_aload_n dX10_takeWish_11 rfl ?_
    refine wp_getC dX10_takeWish_12 flX10_32 rfl rfl ?_
    refine wp_alen dX10_takeWish_15 (by first | rfl | exact gs1 hG | exact gs2 hG | exact gs3 hG | exact gs4 hG | exact ws1 hW | exact ws2 hW | assumption) (by decide) ?_
    refine wp_icmplt 21 dX10_takeWish_16 (by decide) (by unfold InR; omega) (by unfold InR; omega) (fun c16 => ?_) (fun c16 => ?_)
    · refine wp_aload_n dX10_takeWish_21 rfl ?_
      refine wp_getC dX10_takeWish_22 flX10_32 rfl rfl ?_
      refine wp_aload_n dX10_takeWish_25 rfl ?_
      refine wp_getI dX10_takeWish_26 flX10_36 rfl rfl ?_
      rw [w1]
      refine wp_aald (n := 4) dX10_takeWish_29 rfl (by omega) (by omega) ?_
      obtain ⟨b, hb⟩ : ∃ b, b = 8 + 3 * (((sW σ).length : Nat) : Int).toNat := ⟨_, rfl⟩
      rw [← hb]
      have hW : isW b := by unfold isW; omega
      refine wp_aload_n dX10_takeWish_30 rfl ?_
      refine wp_getC dX10_takeWish_31 flX10_26 rfl rfl ?_
      refine wp_getC dX10_takeWish_34 flX10_140 rfl rfl ?_
      refine wp_aload_n dX10_takeWish_37 rfl ?_
      refine wp_getC dX10_takeWish_38 flX10_26 rfl rfl ?_
      refine wp_getI dX10_takeWish_41 flX10_143 rfl rfl ?_
      rw [c1]
      refine wp_callV dX10_takeWish_44 mlX10_144 mvX8_take (S_X8_take hW cw c160) rfl rfl (by decide) (by decide) (ws0 hW) rfl rfl (Nat.le_of_ble_eq_true rfl) ?_
      rintro rv h1 ⟨rfl, cd1, kp1⟩
      refine wp_aload_n dX10_takeWish_47 rfl ?_
      refine wp_getC dX10_takeWish_48 flX10_10 rfl rfl ?_
      refine wp_iconst dX10_takeWish_51 ?_
      refine wp_putI dX10_takeWish_52 plX10_107 rfl rfl ?_
      refine wp_aload_n dX10_takeWish_55 rfl ?_
      refine wp_dup dX10_takeWish_56 rfl ?_
      refine wp_getI dX10_takeWish_57 flX10_36 rfl rfl ?_
      rw [show hI (sI h1 1 1 0) 0 4 = (((sW σ).length : Nat) : Int) from by rw [hI_sI, if_neg (by omega), kp1.1 0 4 (fun q => by rcases q with q | q <;> omega)]; exact w1]
      refine wp_iconst dX10_takeWish_60 ?_
      refine wp_iadd dX10_takeWish_61 ?_
      refine wp_putI dX10_takeWish_62 plX10_36 rfl rfl ?_
      refine wp_aload_n dX10_takeWish_65 rfl ?_
      refine wp_getI dX10_takeWish_66 flX10_36 rfl rfl ?_
      rw [hI_same]
      refine wp_iconst dX10_takeWish_69 ?_
      refine wp_isub dX10_takeWish_70 ?_
      exact wp_iret dX10_takeWish_71 rfl (by
  obtain ⟨h9, hh9⟩ : ∃ h9, h9 = sI (sI h1 1 1 0) 0 4 (((sW σ).length : Int) + 1) := ⟨_, rfl⟩
  rw [← hh9]
  have gb2 : 8 ≤ b ∧ b ≤ 17 := by omega
  have k9 : ∀ c2 j, ¬ ((c2 = 0 ∧ j = 4) ∨ (c2 = 1 ∧ j = 1) ∨ (c2 = b ∧ j = 1) ∨ c2 = b + 1) → hI h9 c2 j = hI h c2 j := fun c2 j z => by rw [hh9, hI_sI, if_neg (by omega), hI_sI, if_neg (by omega), kp1.1 c2 j (fun q => z (by rcases q with q | q <;> omega))]
  have k8 : ∀ c2 j, 8 ≤ c2 → hI h9 c2 j = hI h1 c2 j := fun c2 j z => by rw [hh9, hI_sI, if_neg (by omega), hI_sI, if_neg (by omega)]
  have r9 : h9.2 = h.2 := by rw [hh9]; exact kp1.2
  refine ⟨vi (by rw [if_pos (by omega)]; omega), ?_, fun c2 hc2 => ⟨by funext j; exact k9 c2 j (by omega), by rw [r9], by rw [r9]⟩⟩
  rw [if_pos (by omega)]
  have a2 : AC h9 ([], (sW σ) ++ [sT σ], σ.2.2) := by
    refine AC.setW a o ?_ ?_ (fun w t ht => ?_) (fun c2 j hr hn => k9 c2 j (by omega)) (by unfold hR; rw [r9]) (by unfold hR; rw [r9])
    · exact ⟨by rw [hh9, hI_sI, if_neg (by omega), hI_same]; rfl, fun i hi => absurd hi (Nat.not_lt_zero i)⟩
    · rw [hh9, hI_same, List.length_append, List.length_singleton]; omega
    · by_cases hw : w < (sW σ).length
      · rw [List.getElem?_append_left hw] at ht
        obtain ⟨k2, c2, q1, q2, q3⟩ := a.2.1.2 w t ht
        exact ⟨k2, c2, q1, by rw [k9 _ 1 (by omega)]; exact q2, fun i hi => by rw [k9 _ i (by omega)]; exact q3 i hi⟩
      · have hw2 : w < (sW σ ++ [sT σ]).length := (List.getElem?_eq_some_iff.mp ht).1
        rw [List.length_append, List.length_singleton] at hw2
        obtain rfl : w = (sW σ).length := by omega
        have ht : t = sT σ := by rw [List.getElem?_append_right (Nat.le_refl _), Nat.sub_self] at ht; exact (Option.some.inj ht).symm
        subst ht
        have hb2 : b = 8 + 3 * (sW σ).length := by omega
        exact ⟨k, c, hc, by rw [k8 _ 1 (by omega), ← hb2]; exact cd1.1, fun i hi => by rw [k8 _ i (by omega), show 9 + 3 * (sW σ).length = b + 1 by omega]; exact cd1.2 i hi⟩
  exact a2)
    · refine wp_iconst dX10_takeWish_19 ?_
      exact wp_iret dX10_takeWish_20 rfl (⟨vi (by rw [if_neg (by omega)]), by rw [if_neg (by omega)]; exact a, sameM_rf h⟩)

def nText (σ : Sg) (s : Int) : Sg := if s = 0 then (match gRd (sT σ) with | .inl _ => σ | .inr G => nGd σ G) else if s = 1 then (match wRd (sT σ) with | .inl _ => σ | .inr _ => if (sW σ).length < 4 then nWs σ else σ) else σ
def rText (σ : Sg) (s : Int) : Int := if s = 0 then (match gRd (sT σ) with | .inl _ => -1 | .inr G => gP G) else if s = 1 then (match wRd (sT σ) with | .inl _ => -1 | .inr _ => if (sW σ).length < 4 then ((sW σ).length : Int) else -1) else -1
theorem rdV_b {α : Type} {r : Nat ⊕ α} : (rdV r = -1 ↔ ∃ G, r = .inr G) := by
  cases r with
  | inl e => exact ⟨fun h => by have h : (e : Int) = -1 := h; omega, fun ⟨G, h⟩ => by cases h⟩
  | inr G => exact ⟨fun _ => ⟨G, rfl⟩, fun _ => rfl⟩
theorem wdV_b {r : Nat ⊕ (Nat × List Int)} : (wdV r = -1 ↔ ∃ G, r = .inr G) := by
  cases r with
  | inl e => exact ⟨fun h => by have h : (e : Int) = -1 := h; omega, fun ⟨G, h⟩ => by cases h⟩
  | inr G => exact ⟨fun _ => ⟨G, rfl⟩, fun _ => rfl⟩
theorem sum_l {α β : Type} {r : α ⊕ β} (h : ¬ ∃ G, r = .inr G) : ∃ e, r = .inl e := by
  cases r with
  | inl e => exact ⟨e, rfl⟩
  | inr G => exact absurd ⟨G, rfl⟩ h
theorem gRd_e {t : List Int} (k : TOK t) {e : Nat} (h : gRd t = .inl e) : e ≤ t.length := by
  rw [gRd_eq] at h
  have h1 := gsF_b k 161 ([], none, []) 0 GSOK.g0 (Nat.zero_le _)
  cases q : gsF t 161 ([], none, []) 0 with
  | inl x => rw [q] at h h1; cases h; exact h1
  | inr z =>
    obtain ⟨j, gs⟩ := z
    rw [q] at h h1
    have hj : j ≤ t.length := h1.1
    have h2 := sk_b t hj
    unfold gEnd at h
    dsimp only at h
    split at h
    · cases h; exact h2.2
    · split at h
      · cases h; exact Nat.le_refl _
      · cases h
theorem pcs_e {t : List Int} (k : TOK t) : ∀ (n i : Nat) (c : List Int) (l : List (Vl × Vl)) (e : Nat), i ≤ t.length → pcs t n i c l = .inl e → e ≤ t.length
  | 0, i, c, l, e, hi, h => by cases h; exact hi
  | n + 1, i, c, l, e, hi, h => by
    rw [pcs] at h
    have pp := pcl_pp k (z := c.length) hi
    cases q : pcl t c.length i with
    | inl x => rw [q] at h pp; cases h; exact pp
    | inr z =>
      obtain ⟨k2, c1, b, v⟩ := z
      have p2 := pp.r q
      have h2 := sk_b t p2.2.1
      rw [q] at h
      dsimp only at h
      split at h
      · rename_i s1
        have lin := lk_in k p2.2.1 (by omega : lk t k2 ≠ -1)
        exact pcs_e k n _ _ _ e (by omega) h
      · split at h
        · cases h
        · cases h; exact h2.2
theorem rdR {t : List Int} (k : TOK t) : InR (rdV (gRd t)) ∧ InR (wdV (wRd t)) := by
  have t160 := k.1
  refine ⟨?_, ?_⟩
  · cases q : gRd t with
    | inl e => have := gRd_e k q; show InR (e : Int); unfold InR; omega
    | inr z => exact ⟨by show _ ≤ (-1 : Int); decide, by show (-1 : Int) < _; decide⟩
  · rw [wRd_eq]
    cases q : pcs t 161 0 [] [] with
    | inl e => have := pcs_e k 161 0 [] [] e (Nat.zero_le _) q; show InR (e : Int); unfold InR; omega
    | inr z => exact ⟨by show _ ≤ (-1 : Int); decide, by show (-1 : Int) < _; decide⟩

set_option maxRecDepth 20000 in
theorem S_X10_text {X : Cx} {h : Hp} {σ : Sg} (hx : XOK X) (a : AC h σ) (o : SOK σ) {s : Int} (hs : InR s) : Spec X mX10_text 30 [.ref (adr X 0), .int (iI s)] h (fun rv h' => rv = some (.int (iI (rText σ s))) ∧ AC h' (nText σ s) ∧ sameM h h') := by
  have hG7 : isG (hR h 0 7) := a.2.2.2.1.b.2.1
  refine spec_wp (Nat.le_of_ble_eq_true rfl) (by decide +kernel) ?_
  refine wp_loc [(0, .ref (adr X 0)), (1, .int (iI s))] ⟨rfl, rfl, trivial⟩ ?_
  refine wp_iload_n dX10_text_0 rfl ?_
  refine wp_ifne 32 dX10_text_1 (by decide) (by first | assumption | (unfold InR; omega)) (fun c1 => ?_) (fun c1 => ?_)
  · refine wp_iload_n dX10_text_32 rfl ?_
    refine wp_iconst dX10_text_33 ?_
    refine wp_icmpne 61 dX10_text_34 (by decide) (by first | assumption | (unfold InR; omega)) (by first | assumption | (unfold InR; omega)) (fun c34 => ?_) (fun c34 => ?_)
    · refine wp_iconst dX10_text_61 ?_
      exact wp_iret dX10_text_62 rfl (by
  unfold rText nText
  rw [if_neg c1, if_neg c1, if_neg c34, if_neg c34]
  exact ⟨rfl, a, sameM_rf h⟩)
    · refine wp_aload_n dX10_text_37 rfl ?_
      refine wp_getC dX10_text_38 flX10_26 rfl rfl ?_
      refine wp_aload_n dX10_text_41 rfl ?_
      refine wp_getC dX10_text_42 flX10_10 rfl rfl ?_
      refine wp_callV dX10_text_45 mlX10_118 mvX9_read (S_X9_read a.tp o.1 rfl) rfl rfl (by decide) (by decide) rfl rfl rfl (Nat.le_of_ble_eq_true rfl) ?_
      rintro rv h1 ⟨rfl, g1, kp1⟩
      have a1 := a.sw o kp1
      refine wp_iconst dX10_text_48 ?_
      refine wp_icmpne 59 dX10_text_49 (by decide) (rdR o.1).2 (by unfold InR; omega) (fun c49 => ?_) (fun c49 => ?_)
      · refine wp_iconst dX10_text_59 ?_
        exact wp_iret dX10_text_60 rfl (by
  obtain ⟨e, he⟩ := sum_l (fun z => c49 (wdV_b.mpr z))
  unfold rText nText
  rw [if_neg c1, if_neg c1, if_pos c34, if_pos c34, he]
  exact ⟨rfl, a1, SW_M kp1⟩)
      · obtain ⟨⟨k9, c9⟩, hG9⟩ := wdV_b.mp c49
        refine wp_aload_n dX10_text_52 rfl ?_
        refine wp_callV dX10_text_53 mlX10_125 mvX10_takeWish (S_X10_takeWish a1 o hG9 (g1 _ _ hG9)) rfl rfl (by decide) (by decide) rfl rfl rfl (Nat.le_of_ble_eq_true rfl) ?_
        rintro rv h2 ⟨rfl, a2, s2⟩
        refine wp_goto 60 dX10_text_56 (by decide) ?_
        exact wp_iret dX10_text_60 rfl (by
  unfold rText nText
  rw [if_neg c1, if_neg c1, if_pos c34, if_pos c34, hG9]
  exact ⟨rfl, a2, sameM_tr (SW_M kp1) s2⟩)
  · refine wp_aload_n dX10_text_4 rfl ?_
    refine wp_getC dX10_text_5 flX10_19 rfl rfl ?_
    refine wp_aload_n dX10_text_8 rfl ?_
    refine wp_getC dX10_text_9 flX10_10 rfl rfl ?_
    refine wp_aload_n dX10_text_12 rfl ?_
    refine wp_getM dX10_text_13 flX10_50 rfl rfl ?_
    refine wp_callV dX10_text_16 mlX10_114 mvX4_read (S_X4_read hx hG7 a.tp o.1 a.hb rfl) rfl rfl (by decide) (by decide) rfl rfl rfl (Nat.le_of_ble_eq_true rfl) ?_
    rintro rv h1 ⟨rfl, g1, hb1, kp1⟩
    have a1 := a.sg o hb1 kp1
    refine wp_iconst dX10_text_19 ?_
    refine wp_icmpne 30 dX10_text_20 (by decide) (rdR o.1).1 (by unfold InR; omega) (fun c20 => ?_) (fun c20 => ?_)
    · refine wp_iconst dX10_text_30 ?_
      exact wp_iret dX10_text_31 rfl (by
  obtain ⟨e, he⟩ := sum_l (fun z => c20 (rdV_b.mpr z))
  unfold rText nText
  rw [if_pos c1, if_pos c1, he]
  exact ⟨rfl, a1, SG_M hG7 kp1⟩)
    · obtain ⟨G, hG9⟩ := rdV_b.mp c20
      obtain ⟨q9, rfl, hq9, g9⟩ := g1 G hG9
      refine wp_aload_n dX10_text_23 rfl ?_
      refine wp_callV dX10_text_24 mlX10_121 mvX10_takeGarden (S_X10_takeGarden a1 o (by rw [show hR h1 0 7 = hR h 0 7 from by unfold hR; rw [kp1.2]]; exact g9) hq9) rfl rfl (by decide) (by decide) rfl rfl rfl (Nat.le_of_ble_eq_true rfl) ?_
      rintro rv h2 ⟨rfl, a2, s2⟩
      refine wp_goto 31 dX10_text_27 (by decide) ?_
      exact wp_iret dX10_text_31 rfl (by
  unfold rText nText
  rw [if_pos c1, if_pos c1, hG9]
  exact ⟨rfl, a2, sameM_tr (SG_M hG7 kp1) s2⟩)

