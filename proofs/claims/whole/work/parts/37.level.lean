/-! the class: the levellest -/
def tpF (G : Gdn) (p x y : Int) : Int := max (iabs (slnF G p 0 * (y - x) + slnF G (nx (gP G) p) 0 * x)) (iabs (slnF G p 1 * (y - x) + slnF G (nx (gP G) p) 1 * x))
theorem tpE_b {G : Gdn} (g : GOK G) {p x y l : Int} (h : 0 ≤ x ∧ x ≤ y ∧ y ≤ 2000) : -792000 ≤ slnF G p l * (y - x) + slnF G (nx (gP G) p) l * x ∧ slnF G p l * (y - x) + slnF G (nx (gP G) p) l * x ≤ 792000 := by
  have h1 := mul_b (B := 2000) (slnF_b g p l) (z := y - x) (by omega) (by omega)
  have h2 := mul_b (B := 2000) (slnF_b g (nx (gP G) p) l) (z := x) (by omega) (by omega)
  omega
theorem tpF_b {G : Gdn} (g : GOK G) {p x y : Int} (h : 0 ≤ x ∧ x ≤ y ∧ y ≤ 2000) : 0 ≤ tpF G p x y ∧ tpF G p x y ≤ 792000 := by
  have h0 := iabs_b (n := 792000) (tpE_b g (p := p) (l := 0) h)
  have h1 := iabs_b (n := 792000) (tpE_b g (p := p) (l := 1) h)
  unfold tpF
  omega
theorem plc_b {γ : Int → Int} {P p : Int} (h1 : -1000 ≤ γ p ∧ γ p ≤ 1000) (h2 : -1000 ≤ γ (nx P p) ∧ γ (nx P p) ≤ 1000) : 0 ≤ plc γ P p 1 ∧ plc γ P p 1 ≤ plc γ P p 2 ∧ 1 ≤ plc γ P p 2 ∧ plc γ P p 2 ≤ 2000 := by
  have u1 := iabs_b (n := 1000) h1
  have u2 := iabs_b (n := 1000) h2
  have e1 : plc γ P p 1 = if γ p = 0 then 0 else iabs (γ p) / gcdI (iabs (γ p)) (iabs (γ p) + iabs (γ (nx P p))) := by unfold plc; rw [if_neg (by omega), if_pos rfl, if_pos rfl]
  have e2 : plc γ P p 2 = if γ p = 0 then 1 else (iabs (γ p) + iabs (γ (nx P p))) / gcdI (iabs (γ p)) (iabs (γ p) + iabs (γ (nx P p))) := by unfold plc; rw [if_neg (show ¬ (2 : Int) = 0 by decide), if_neg (show ¬ (2 : Int) = 1 by decide), if_neg (show ¬ (2 : Int) = 1 by decide)]
  rw [e1, e2]
  by_cases hz : γ p = 0
  · rw [if_pos hz, if_pos hz]; omega
  · rw [if_neg hz, if_neg hz]
    have hp : 0 < iabs (γ p) := by unfold iabs; split <;> omega
    have gp := gcdI_pos (a := iabs (γ p)) (b := iabs (γ p) + iabs (γ (nx P p))) hp
    have gl := gcdI_le (a := iabs (γ p)) (b := iabs (γ p) + iabs (γ (nx P p))) hp
    generalize gcdI (iabs (γ p)) (iabs (γ p) + iabs (γ (nx P p))) = d at gp gl
    generalize iabs (γ p) = u at *
    generalize iabs (γ (nx P p)) = v at *
    refine ⟨Int.ediv_nonneg (by omega) (by omega), Int.ediv_le_ediv gp (by omega), ?_, ?_⟩
    · exact Int.le_ediv_of_mul_le gp (by omega)
    · exact Int.le_trans (Int.ediv_le_self _ (by omega)) (by omega)
def lvF (G : Gdn) (γ : Int → Int) : Nat → Int → Int → Int → Int → Int
  | 0, _, f, _, _ => f
  | n + 1, p, f, x, y => if stb γ (gP G) p = true then (if f = -1 ∨ tpF G p (plc γ (gP G) p 1) (plc γ (gP G) p 2) * y < x * plc γ (gP G) p 2 then lvF G γ n (p + 1) p (tpF G p (plc γ (gP G) p 1) (plc γ (gP G) p 2)) (plc γ (gP G) p 2) else lvF G γ n (p + 1) f x y) else lvF G γ n (p + 1) f x y
theorem lvF_b (G : Gdn) (γ : Int → Int) : ∀ (n : Nat) (p f x y : Int), -1 ≤ f → f < p → 0 ≤ p → -1 ≤ lvF G γ n p f x y ∧ lvF G γ n p f x y < p + n
  | 0, p, f, x, y, h1, h2, _ => by unfold lvF; omega
  | n + 1, p, f, x, y, h1, h2, h3 => by
    unfold lvF
    split
    · split
      · have := lvF_b G γ n (p + 1) p (tpF G p (plc γ (gP G) p 1) (plc γ (gP G) p 2)) (plc γ (gP G) p 2) (by omega) (by omega) (by omega)
        omega
      · have := lvF_b G γ n (p + 1) f x y (by omega) (by omega) (by omega)
        omega
    · have := lvF_b G γ n (p + 1) f x y (by omega) (by omega) (by omega)
      omega
def lvP (G : Gdn) : Int := lvF G (gapF G) (gP G).toNat 0 (-1) 0 1
def qLevel (σ : Sg) (w : Int) : Int := if gP (sG σ) = 0 ∨ w < 0 ∨ 4 < w then -1 else if lvP (sG σ) = -1 then -1 else if w ≤ 2 then plc (gapF (sG σ)) (gP (sG σ)) (lvP (sG σ)) w else
  (if w = 3 then tpF (sG σ) (lvP (sG σ)) (plc (gapF (sG σ)) (gP (sG σ)) (lvP (sG σ)) 1) (plc (gapF (sG σ)) (gP (sG σ)) (lvP (sG σ)) 2) else plc (gapF (sG σ)) (gP (sG σ)) (lvP (sG σ)) 2) / gcdI (tpF (sG σ) (lvP (sG σ)) (plc (gapF (sG σ)) (gP (sG σ)) (lvP (sG σ)) 1) (plc (gapF (sG σ)) (gP (sG σ)) (lvP (sG σ)) 2)) (plc (gapF (sG σ)) (gP (sG σ)) (lvP (sG σ)) 2)

set_option maxRecDepth 20000 in
theorem S_X10_tiltParts {X : Cx} {h : Hp} {σ : Sg} {p x y : Int} (a : AC h σ) (o : SOK σ) (hp : 0 ≤ p ∧ p < gP (sG σ)) (hx : 0 ≤ x ∧ x ≤ y ∧ y ≤ 2000) : Spec X mX10_tiltParts 5 [.ref (adr X 0), .int (iI p), .int (iI x), .int (iI y)] h (fun rv h' => rv = some (.int (iI (tpF (sG σ) p x y))) ∧ h' = h) := by
  have g := a.gb o
  have hG := g.1
  have gk := o.2.2.2.1
  have gb := gk.b
  have gkb := gk.2.1
  have e4 : hI h (hR h 0 6) 4 = gP (sG σ) := a.2.2.2.2.1.1
  have e5 : hI h (hR h 0 6) 5 = gA (sG σ) := a.2.2.2.2.1.2.1
  have e6 : hI h (hR h 0 6) 6 = gK (sG σ) := a.2.2.2.2.1.2.2.1
  have he : hI h (hR h 0 6) 4 % 2 = 0 := by omega
  have ab := arnd_b (P := gP (sG σ)) (p := p + 1) (by omega)
  refine spec_wp (Nat.le_of_ble_eq_true rfl) (by decide +kernel) ?_
  refine wp_loc [(0, .ref (adr X 0)), (1, .int (iI p)), (2, .int (iI x)), (3, .int (iI y))] ⟨rfl, rfl, rfl, rfl, trivial⟩ ?_
  refine wp_aload_n dX10_tiltParts_0 rfl ?_
  refine wp_getM dX10_tiltParts_1 flX10_46 rfl rfl ?_
  refine wp_iload_n dX10_tiltParts_4 rfl ?_
  refine wp_iconst dX10_tiltParts_5 ?_
  refine wp_iadd dX10_tiltParts_6 ?_
  refine wp_callVp dX10_tiltParts_7 mlX10_216 mvX3_around (S_X3_around g (by first | assumption | (unfold InR; omega))) rfl rfl (by decide) (by decide) (gs0 hG) rfl rfl (Nat.le_of_ble_eq_true rfl) ?_
  rw [e4]
  refine wp_istore dX10_tiltParts_10 (by decide) ?_
  refine wp_aload_n dX10_tiltParts_12 rfl ?_
  refine wp_getM dX10_tiltParts_13 flX10_46 rfl rfl ?_
  refine wp_iload_n dX10_tiltParts_16 rfl ?_
  refine wp_iconst dX10_tiltParts_17 ?_
  refine wp_callVp dX10_tiltParts_18 mlX10_219 mvX3_apart (S_X3_apart g (by omega) (by omega)) rfl rfl (by decide) (by decide) (gs0 hG) rfl rfl (Nat.le_of_ble_eq_true rfl) ?_
  refine wp_iload_n dX10_tiltParts_21 rfl ?_
  refine wp_iload_n dX10_tiltParts_22 rfl ?_
  refine wp_isub dX10_tiltParts_23 ?_
  refine wp_imul dX10_tiltParts_24 ?_
  refine wp_aload_n dX10_tiltParts_25 rfl ?_
  refine wp_getM dX10_tiltParts_26 flX10_46 rfl rfl ?_
  refine wp_iload dX10_tiltParts_29 rfl ?_
  refine wp_iconst dX10_tiltParts_31 ?_
  refine wp_callVp dX10_tiltParts_32 mlX10_219 mvX3_apart (S_X3_apart g (by omega) (by omega)) rfl rfl (by decide) (by decide) (gs0 hG) rfl rfl (Nat.le_of_ble_eq_true rfl) ?_
  refine wp_iload_n dX10_tiltParts_35 rfl ?_
  refine wp_imul dX10_tiltParts_36 ?_
  refine wp_iadd dX10_tiltParts_37 ?_
  rw [a.rcE, a.rcE, a.rcE, a.rcE, show rchF (sG σ) p 0 - rchF (sG σ) p (0 + 2) = slnF (sG σ) p 0 from rfl, show rchF (sG σ) (arnd (gP (sG σ)) (p + 1)) 0 - rchF (sG σ) (arnd (gP (sG σ)) (p + 1)) (0 + 2) = slnF (sG σ) (nx (gP (sG σ)) p) 0 from rfl]
  refine wp_istore dX10_tiltParts_38 (by decide) ?_
  refine wp_aload_n dX10_tiltParts_40 rfl ?_
  refine wp_getM dX10_tiltParts_41 flX10_46 rfl rfl ?_
  refine wp_iload_n dX10_tiltParts_44 rfl ?_
  refine wp_iconst dX10_tiltParts_45 ?_
  refine wp_callVp dX10_tiltParts_46 mlX10_219 mvX3_apart (S_X3_apart g (by omega) (by omega)) rfl rfl (by decide) (by decide) (gs0 hG) rfl rfl (Nat.le_of_ble_eq_true rfl) ?_
  refine wp_iload_n dX10_tiltParts_49 rfl ?_
  refine wp_iload_n dX10_tiltParts_50 rfl ?_
  refine wp_isub dX10_tiltParts_51 ?_
  refine wp_imul dX10_tiltParts_52 ?_
  refine wp_aload_n dX10_tiltParts_53 rfl ?_
  refine wp_getM dX10_tiltParts_54 flX10_46 rfl rfl ?_
  refine wp_iload dX10_tiltParts_57 rfl ?_
  refine wp_iconst dX10_tiltParts_59 ?_
  refine wp_callVp dX10_tiltParts_60 mlX10_219 mvX3_apart (S_X3_apart g (by omega) (by omega)) rfl rfl (by decide) (by decide) (gs0 hG) rfl rfl (Nat.le_of_ble_eq_true rfl) ?_
  refine wp_iload_n dX10_tiltParts_63 rfl ?_
  refine wp_imul dX10_tiltParts_64 ?_
  refine wp_iadd dX10_tiltParts_65 ?_
  rw [a.rcE, a.rcE, a.rcE, a.rcE, show rchF (sG σ) p 1 - rchF (sG σ) p (1 + 2) = slnF (sG σ) p 1 from rfl, show rchF (sG σ) (arnd (gP (sG σ)) (p + 1)) 1 - rchF (sG σ) (arnd (gP (sG σ)) (p + 1)) (1 + 2) = slnF (sG σ) (nx (gP (sG σ)) p) 1 from rfl]
  have t0 := tpE_b gk (p := p) (l := 0) hx
  have t1 := tpE_b gk (p := p) (l := 1) hx
  have u0 := iabs_b (n := 792000) t0
  have u1 := iabs_b (n := 792000) t1
  refine wp_istore dX10_tiltParts_66 (by decide) ?_
  refine wp_iload dX10_tiltParts_68 rfl ?_
  refine wp_callSp dX10_tiltParts_70 mlX10_222 msJ9_abs_0f7a4 (S_J9_abs_0f7a4 (by unfold InR; omega)) rfl rfl (by decide) (by decide) (Nat.le_of_ble_eq_true rfl) ?_
  refine wp_iload dX10_tiltParts_73 rfl ?_
  refine wp_callSp dX10_tiltParts_75 mlX10_222 msJ9_abs_0f7a4 (S_J9_abs_0f7a4 (by unfold InR; omega)) rfl rfl (by decide) (by decide) (Nat.le_of_ble_eq_true rfl) ?_
  refine wp_callSp dX10_tiltParts_78 mlX10_227 msJ9_max_7cf53 (S_J9_max_7cf53 (by unfold InR; omega) (by unfold InR; omega)) rfl rfl (by decide) (by decide) (Nat.le_of_ble_eq_true rfl) ?_
  exact wp_iret dX10_tiltParts_81 rfl (⟨rfl, rfl⟩)

set_option maxRecDepth 20000 in
theorem S_X10_levellest {X : Cx} {h : Hp} {σ : Sg} (a : AC h σ) (o : SOK σ) (hr : RND h (gapF (sG σ)) (gP (sG σ))) : Spec X mX10_levellest 7 [.ref (adr X 0)] h (fun rv h' => rv = some (.int (iI (lvP (sG σ)))) ∧ h' = h) := by
  have g := a.gb o
  have hG := g.1
  have gk := o.2.2.2.1
  have gb := gk.b
  have gkb := gk.2.1
  have e4 : hI h (hR h 0 6) 4 = gP (sG σ) := a.2.2.2.2.1.1
  have e5 : hI h (hR h 0 6) 5 = gA (sG σ) := a.2.2.2.2.1.2.1
  have e6 : hI h (hR h 0 6) 6 = gK (sG σ) := a.2.2.2.2.1.2.2.1
  have he : hI h (hR h 0 6) 4 % 2 = 0 := by omega
  obtain ⟨V, hV0⟩ : ∃ V : Int, V = lvP (sG σ) := ⟨_, rfl⟩
  rw [← hV0]
  unfold lvP at hV0
  refine spec_wp (Nat.le_of_ble_eq_true rfl) (by decide +kernel) ?_
  refine wp_loc [(0, .ref (adr X 0))] ⟨rfl, trivial⟩ ?_
  have L : ∀ (n : Nat) (p f x y : Int), (p + n = gP (sG σ)) → (0 ≤ p) → (-1 ≤ f ∧ f ≤ 24) → (0 ≤ x ∧ x ≤ 792000 ∧ 1 ≤ y ∧ y ≤ 2000) → (V = lvF (sG σ) (gapF (sG σ)) n p f x y) → WP X mX10_levellest 7 10 [(0, .ref (adr X 0)), (1, .int (iI f)), (2, .long (lI x)), (4, .long (lI y)), (6, .int (iI p))] [] h (fun rv h' => rv = some (.int (iI V)) ∧ h' = h) := by
    intro n
    induction n with
    | zero =>
      intro p f x y hn hp hf hx hV
      have r1 := hr.1
      refine wp_iload dX10_levellest_10 rfl ?_
      refine wp_aload_n dX10_levellest_12 rfl ?_
      refine wp_getM dX10_levellest_13 flX10_46 rfl rfl ?_
      refine wp_getI dX10_levellest_16 flX10_137 (gs0 hG) rfl ?_
      refine wp_icmpge 104 dX10_levellest_19 (by decide) (by first | assumption | (unfold InR; omega)) (by first | assumption | (unfold InR; omega)) (fun c19 => ?_) (fun c19 => ?_)
      · refine wp_iload_n dX10_levellest_104 rfl ?_
        exact wp_iret dX10_levellest_105 rfl (⟨vi (by rw [hV]; rfl), rfl⟩)
      · exact absurd c19 (by omega)
    | succ n ih =>
      intro p f x y hn hp hf hx hV
      have r1 := hr.1
      refine wp_iload dX10_levellest_10 rfl ?_
      refine wp_aload_n dX10_levellest_12 rfl ?_
      refine wp_getM dX10_levellest_13 flX10_46 rfl rfl ?_
      refine wp_getI dX10_levellest_16 flX10_137 (gs0 hG) rfl ?_
      refine wp_icmpge 104 dX10_levellest_19 (by decide) (by first | assumption | (unfold InR; omega)) (by first | assumption | (unfold InR; omega)) (fun c19 => ?_) (fun c19 => ?_)
      · exact absurd c19 (by omega)
      · refine wp_aload_n dX10_levellest_22 rfl ?_
        refine wp_getC dX10_levellest_23 flX10_85 rfl rfl ?_
        refine wp_iload dX10_levellest_26 rfl ?_
        refine wp_callVp dX10_levellest_28 mlX10_213 mvX6_standsFrom (S_X6_standsFrom hr (by omega)) rfl rfl (by decide) (by decide) rfl rfl rfl (Nat.le_of_ble_eq_true rfl) ?_
        refine wp_ifeqb 98 dX10_levellest_31 (by decide) (fun c31 => ?_) (fun c31 => ?_)
        · refine wp_iinc dX10_levellest_98 rfl (by decide) ?_
          refine wp_goto 10 dX10_levellest_101 (by decide) ?_
          refine wp_loc [(0, .ref (adr X 0)), (1, .int (iI _)), (2, .long (lI _)), (4, .long (lI _)), (6, .int (iI (p + 1)))] ⟨rfl, rfl, rfl, rfl, rfl, trivial⟩ ?_
          exact ih (p + 1) _ _ _ (by omega) (by omega) (by omega) (by omega) (by first | (rw [hV, lvF, if_neg c31]; done) | (rw [hV, if_pos (Or.inl (by omega))]; done) | (rw [hV, if_pos (Or.inr (by omega))]; done) | (rw [hV, if_neg (fun q => by omega)]; done))
        · have vb := (hr.2.2.2 p (by omega) (by omega)).2
          have ab := arnd_b (P := gP (sG σ)) (p := p + 1) (by omega)
          have vb2 := (hr.2.2.2 _ ab.1 ab.2).2
          have pb := plc_b (P := gP (sG σ)) vb vb2
          have tb := tpF_b gk (p := p) (x := plc (gapF (sG σ)) (gP (sG σ)) p 1) (y := plc (gapF (sG σ)) (gP (sG σ)) p 2) (by omega)
          refine wp_aload_n dX10_levellest_34 rfl ?_
          refine wp_getC dX10_levellest_35 flX10_85 rfl rfl ?_
          refine wp_iload dX10_levellest_38 rfl ?_
          refine wp_iconst dX10_levellest_40 ?_
          refine wp_callVp dX10_levellest_41 mlX10_197 mvX6_place (S_X6_place hr (by omega) (by omega)) rfl rfl (by decide) (by decide) rfl rfl rfl (Nat.le_of_ble_eq_true rfl) ?_
          refine wp_istore dX10_levellest_44 (by decide) ?_
          refine wp_aload_n dX10_levellest_46 rfl ?_
          refine wp_iload dX10_levellest_47 rfl ?_
          refine wp_aload_n dX10_levellest_49 rfl ?_
          refine wp_getC dX10_levellest_50 flX10_85 rfl rfl ?_
          refine wp_iload dX10_levellest_53 rfl ?_
          refine wp_iconst dX10_levellest_55 ?_
          refine wp_callVp dX10_levellest_56 mlX10_197 mvX6_place (S_X6_place hr (by omega) (by omega)) rfl rfl (by decide) (by decide) rfl rfl rfl (Nat.le_of_ble_eq_true rfl) ?_
          refine wp_iload dX10_levellest_59 rfl ?_
          refine wp_callVp dX10_levellest_61 mlX10_206 mvX10_tiltParts (S_X10_tiltParts a o (by omega) (by omega)) rfl rfl (by decide) (by decide) rfl rfl rfl (Nat.le_of_ble_eq_true rfl) ?_
          refine wp_istore dX10_levellest_64 (by decide) ?_
          rw [lvF, if_pos c31] at hV
          generalize hy : plc (gapF (sG σ)) (gP (sG σ)) p 2 = y2 at *
          generalize hx2 : plc (gapF (sG σ)) (gP (sG σ)) p 1 = x1 at *
          generalize ht : tpF (sG σ) p x1 y2 = t at *
          refine wp_iload_n dX10_levellest_66 rfl ?_
          refine wp_iconst dX10_levellest_67 ?_
          refine wp_icmpeq 86 dX10_levellest_68 (by decide) (by first | assumption | (unfold InR; omega)) (by first | assumption | (unfold InR; omega)) (fun c68 => ?_) (fun c68 => ?_)
          · refine wp_iload dX10_levellest_86 rfl ?_
            refine wp_istore_n dX10_levellest_88 (by decide) ?_
            refine wp_iload dX10_levellest_89 rfl ?_
            refine wp_i2l dX10_levellest_91 ?_
            rw [i2l_I (show InR t by unfold InR; omega)]
            refine wp_lstore_n dX10_levellest_92 (by decide) ?_
            refine wp_iload dX10_levellest_93 rfl ?_
            refine wp_i2l dX10_levellest_95 ?_
            rw [i2l_I (show InR y2 by unfold InR; omega)]
            refine wp_lstore dX10_levellest_96 (by decide) ?_
            refine wp_iinc dX10_levellest_98 rfl (by decide) ?_
            refine wp_goto 10 dX10_levellest_101 (by decide) ?_
            refine wp_loc [(0, .ref (adr X 0)), (1, .int (iI _)), (2, .long (lI _)), (4, .long (lI _)), (6, .int (iI (p + 1)))] ⟨rfl, rfl, rfl, rfl, rfl, trivial⟩ ?_
            exact ih (p + 1) _ _ _ (by omega) (by omega) (by omega) (by omega) (by first | (rw [hV, lvF, if_neg c31]; done) | (rw [hV, if_pos (Or.inl (by omega))]; done) | (rw [hV, if_pos (Or.inr (by omega))]; done) | (rw [hV, if_neg (fun q => by omega)]; done))
          · refine wp_iload dX10_levellest_71 rfl ?_
            refine wp_i2l dX10_levellest_73 ?_
            rw [i2l_I (show InR t by unfold InR; omega)]
            refine wp_lload dX10_levellest_74 rfl ?_
            refine wp_lmul dX10_levellest_76 ?_
            rw [lI_mul]
            refine wp_lload_n dX10_levellest_77 rfl ?_
            refine wp_iload dX10_levellest_78 rfl ?_
            refine wp_i2l dX10_levellest_80 ?_
            rw [i2l_I (show InR y2 by unfold InR; omega)]
            refine wp_lmul dX10_levellest_81 ?_
            rw [lI_mul]
            have m1 := mul_b (A := 792000) (B := 2000) (s := t) (z := y) (by omega) (by omega) (by omega)
            have m2 := mul_b (A := 792000) (B := 2000) (s := x) (z := y2) (by omega) (by omega) (by omega)
            have g3 := lcm_ge (a := t * y) (b := x * y2) ⟨by omega, by omega⟩ ⟨by omega, by omega⟩
            refine wp_lcmp dX10_levellest_82 ?_
            refine wp_ifge 98 dX10_levellest_83 (by decide) (lcm_R _ _) (fun c83 => ?_) (fun c83 => ?_)
            · refine wp_iinc dX10_levellest_98 rfl (by decide) ?_
              refine wp_goto 10 dX10_levellest_101 (by decide) ?_
              refine wp_loc [(0, .ref (adr X 0)), (1, .int (iI _)), (2, .long (lI _)), (4, .long (lI _)), (6, .int (iI (p + 1)))] ⟨rfl, rfl, rfl, rfl, rfl, trivial⟩ ?_
              exact ih (p + 1) _ _ _ (by omega) (by omega) (by omega) (by omega) (by first | (rw [hV, lvF, if_neg c31]; done) | (rw [hV, if_pos (Or.inl (by omega))]; done) | (rw [hV, if_pos (Or.inr (by omega))]; done) | (rw [hV, if_neg (fun q => by omega)]; done))
            · refine wp_iload dX10_levellest_86 rfl ?_
              refine wp_istore_n dX10_levellest_88 (by decide) ?_
              refine wp_iload dX10_levellest_89 rfl ?_
              refine wp_i2l dX10_levellest_91 ?_
              rw [i2l_I (show InR t by unfold InR; omega)]
              refine wp_lstore_n dX10_levellest_92 (by decide) ?_
              refine wp_iload dX10_levellest_93 rfl ?_
              refine wp_i2l dX10_levellest_95 ?_
              rw [i2l_I (show InR y2 by unfold InR; omega)]
              refine wp_lstore dX10_levellest_96 (by decide) ?_
              refine wp_iinc dX10_levellest_98 rfl (by decide) ?_
              refine wp_goto 10 dX10_levellest_101 (by decide) ?_
              refine wp_loc [(0, .ref (adr X 0)), (1, .int (iI _)), (2, .long (lI _)), (4, .long (lI _)), (6, .int (iI (p + 1)))] ⟨rfl, rfl, rfl, rfl, rfl, trivial⟩ ?_
              exact ih (p + 1) _ _ _ (by omega) (by omega) (by omega) (by omega) (by first | (rw [hV, lvF, if_neg c31]; done) | (rw [hV, if_pos (Or.inl (by omega))]; done) | (rw [hV, if_pos (Or.inr (by omega))]; done) | (rw [hV, if_neg (fun q => by omega)]; done))
  refine wp_iconst dX10_levellest_0 ?_
  refine wp_istore_n dX10_levellest_1 (by decide) ?_
  refine wp_lconst (v := 0) dX10_levellest_2 rfl ?_
  refine wp_lstore_n dX10_levellest_3 (by decide) ?_
  refine wp_lconst (v := 1) dX10_levellest_4 rfl ?_
  refine wp_lstore dX10_levellest_5 (by decide) ?_
  refine wp_iconst dX10_levellest_7 ?_
  refine wp_istore dX10_levellest_8 (by decide) ?_
  refine wp_loc [(0, .ref (adr X 0)), (1, .int (iI (-1))), (2, .long (lI 0)), (4, .long (lI 1)), (6, .int (iI 0))] ⟨rfl, rfl, rfl, rfl, rfl, trivial⟩ ?_
  exact L (gP (sG σ)).toNat 0 (-1) 0 1 (by omega) (by omega) (by omega) (by omega) hV0

theorem vl {x : Int64} {y : Int} (h : x = lI y) : some (Value.long x) = some (Value.long (lI y)) := by rw [h]

set_option maxRecDepth 20000 in
theorem S_X10_level {X : Cx} {h : Hp} {σ : Sg} (a : AC h σ) (o : SOK σ) {w : Int} (hw : InR w) : Spec X mX10_level 30 [.ref (adr X 0), .int (iI w)] h (fun rv h' => rv = some (.long (lI (qLevel σ w))) ∧ AC h' σ ∧ sameM h h') := by
  have g := a.gb o
  have hG := g.1
  have gk := o.2.2.2.1
  have gb := gk.b
  have gkb := gk.2.1
  have e4 : hI h (hR h 0 6) 4 = gP (sG σ) := a.2.2.2.2.1.1
  have e5 : hI h (hR h 0 6) 5 = gA (sG σ) := a.2.2.2.2.1.2.1
  have e6 : hI h (hR h 0 6) 6 = gK (sG σ) := a.2.2.2.2.1.2.2.1
  have he : hI h (hR h 0 6) 4 % 2 = 0 := by omega
  refine spec_wp (Nat.le_of_ble_eq_true rfl) (by decide +kernel) ?_
  refine wp_loc [(0, .ref (adr X 0)), (1, .int (iI w))] ⟨rfl, rfl, trivial⟩ ?_
  refine wp_aload_n dX10_level_0 rfl ?_
  refine wp_callVp dX10_level_1 mlX10_148 mvX10_noGarden (S_X10_noGarden g) rfl rfl (by decide) (by decide) rfl rfl rfl (Nat.le_of_ble_eq_true rfl) ?_
  refine wp_ifneb 16 dX10_level_4 (by decide) (fun c4 => ?_) (fun c4 => ?_)
  · refine wp_ldc2 (v := -1) dX10_level_16 klX10_201 ?_
    exact wp_lret dX10_level_19 rfl (⟨vl (by unfold qLevel; rw [if_pos (by omega)]; rfl), a, sameM_rf h⟩)
  · refine wp_iload_n dX10_level_7 rfl ?_
    refine wp_iflt 16 dX10_level_8 (by decide) (by first | assumption | (unfold InR; omega)) (fun c8 => ?_) (fun c8 => ?_)
    · refine wp_ldc2 (v := -1) dX10_level_16 klX10_201 ?_
      exact wp_lret dX10_level_19 rfl (⟨vl (by unfold qLevel; rw [if_pos (by omega)]; rfl), a, sameM_rf h⟩)
    · refine wp_iload_n dX10_level_11 rfl ?_
      refine wp_iconst dX10_level_12 ?_
      refine wp_icmple 20 dX10_level_13 (by decide) (by first | assumption | (unfold InR; omega)) (by first | assumption | (unfold InR; omega)) (fun c13 => ?_) (fun c13 => ?_)
      · refine wp_aload_n dX10_level_20 rfl ?_
        refine wp_callV dX10_level_21 mlX10_188 mvX10_layRound (S_X10_layRound a o (by omega)) rfl rfl (by decide) (by decide) rfl rfl rfl (Nat.le_of_ble_eq_true rfl) ?_
        rintro rv h1 ⟨rfl, a, s1, hr, hln⟩
        have g := a.gb o
        have hG := g.1
        have gk := o.2.2.2.1
        have gb := gk.b
        have gkb := gk.2.1
        have e4 : hI h1 (hR h1 0 6) 4 = gP (sG σ) := a.2.2.2.2.1.1
        have e5 : hI h1 (hR h1 0 6) 5 = gA (sG σ) := a.2.2.2.2.1.2.1
        have e6 : hI h1 (hR h1 0 6) 6 = gK (sG σ) := a.2.2.2.2.1.2.2.1
        have he : hI h1 (hR h1 0 6) 4 % 2 = 0 := by omega
        refine wp_aload_n dX10_level_24 rfl ?_
        refine wp_callVp dX10_level_25 mlX10_203 mvX10_levellest (S_X10_levellest a o hr) rfl rfl (by decide) (by decide) rfl rfl rfl (Nat.le_of_ble_eq_true rfl) ?_
        have fb := lvF_b (sG σ) (gapF (sG σ)) (gP (sG σ)).toNat 0 (-1) 0 1 (by omega) (by omega) (by omega)
        rw [show lvF (sG σ) (gapF (sG σ)) (gP (sG σ)).toNat 0 (-1) 0 1 = lvP (sG σ) from rfl] at fb
        obtain ⟨Q, hq⟩ : ∃ Q : Int, Q = qLevel σ w := ⟨_, rfl⟩
        rw [← hq]
        unfold qLevel at hq
        rw [if_neg (by omega)] at hq
        generalize hp : lvP (sG σ) = p at fb hq ⊢
        refine wp_istore_n dX10_level_28 (by decide) ?_
        refine wp_iload_n dX10_level_29 rfl ?_
        refine wp_iconst dX10_level_30 ?_
        refine wp_icmpne 38 dX10_level_31 (by decide) (by first | assumption | (unfold InR; omega)) (by first | assumption | (unfold InR; omega)) (fun c31 => ?_) (fun c31 => ?_)
        · have vb := (hr.2.2.2 p (by omega) (by omega)).2
          have ab := arnd_b (P := gP (sG σ)) (p := p + 1) (by omega)
          have vb2 := (hr.2.2.2 _ ab.1 ab.2).2
          have pb := plc_b (P := gP (sG σ)) vb vb2
          have tb := tpF_b gk (p := p) (x := plc (gapF (sG σ)) (gP (sG σ)) p 1) (y := plc (gapF (sG σ)) (gP (sG σ)) p 2) (by omega)
          refine wp_iload_n dX10_level_38 rfl ?_
          refine wp_iconst dX10_level_39 ?_
          refine wp_icmpgt 54 dX10_level_40 (by decide) (by first | assumption | (unfold InR; omega)) (by first | assumption | (unfold InR; omega)) (fun c40 => ?_) (fun c40 => ?_)
          · refine wp_aload_n dX10_level_54 rfl ?_
            refine wp_getC dX10_level_55 flX10_85 rfl rfl ?_
            refine wp_iload_n dX10_level_58 rfl ?_
            refine wp_iconst dX10_level_59 ?_
            refine wp_callVp dX10_level_60 mlX10_197 mvX6_place (S_X6_place hr (by omega) (by omega)) rfl rfl (by decide) (by decide) rfl rfl rfl (Nat.le_of_ble_eq_true rfl) ?_
            refine wp_istore_n dX10_level_63 (by decide) ?_
            refine wp_aload_n dX10_level_64 rfl ?_
            refine wp_iload_n dX10_level_65 rfl ?_
            refine wp_aload_n dX10_level_66 rfl ?_
            refine wp_getC dX10_level_67 flX10_85 rfl rfl ?_
            refine wp_iload_n dX10_level_70 rfl ?_
            refine wp_iconst dX10_level_71 ?_
            refine wp_callVp dX10_level_72 mlX10_197 mvX6_place (S_X6_place hr (by omega) (by omega)) rfl rfl (by decide) (by decide) rfl rfl rfl (Nat.le_of_ble_eq_true rfl) ?_
            refine wp_iload_n dX10_level_75 rfl ?_
            refine wp_callVp dX10_level_76 mlX10_206 mvX10_tiltParts (S_X10_tiltParts a o (by omega) (by omega)) rfl rfl (by decide) (by decide) rfl rfl rfl (Nat.le_of_ble_eq_true rfl) ?_
            refine wp_istore dX10_level_79 (by decide) ?_
            refine wp_iload dX10_level_81 rfl ?_
            refine wp_iload_n dX10_level_83 rfl ?_
            refine wp_callSp dX10_level_84 mlX10_210 msX10_common (S_X10_common (by omega) (by omega)) rfl rfl (by decide) (by decide) (Nat.le_of_ble_eq_true rfl) ?_
            refine wp_istore dX10_level_87 (by decide) ?_
            generalize hy : plc (gapF (sG σ)) (gP (sG σ)) p 2 = y2 at *
            generalize hx2 : plc (gapF (sG σ)) (gP (sG σ)) p 1 = x1 at *
            generalize ht : tpF (sG σ) p x1 y2 = t at *
            have gp : 0 < gcdI t y2 := by unfold gcdI; have := Nat.gcd_pos_of_pos_right t.toNat (show 0 < y2.toNat by omega); omega
            have gl : gcdI t y2 ≤ y2 := by unfold gcdI; have := Nat.le_of_dvd (show 0 < y2.toNat by omega) (Nat.gcd_dvd_right t.toNat y2.toNat); omega
            refine wp_iload dX10_level_89 rfl ?_
            refine wp_ifne 100 dX10_level_91 (by decide) (by first | assumption | (unfold InR; omega)) (fun c91 => ?_) (fun c91 => ?_)
            · refine wp_iload_n dX10_level_100 rfl ?_
              refine wp_iconst dX10_level_101 ?_
              refine wp_icmpne 110 dX10_level_102 (by decide) (by first | assumption | (unfold InR; omega)) (by first | assumption | (unfold InR; omega)) (fun c102 => ?_) (fun c102 => ?_)
              · refine wp_iload_n dX10_level_110 rfl ?_
                refine wp_iload dX10_level_111 rfl ?_
                refine wp_idivp dX10_level_113 (by omega) (by omega) (by unfold InR; omega) (by unfold InR; omega) ?_
                refine wp_i2l dX10_level_114 ?_
                rw [i2l_I (ediv_R (by omega) gp (by unfold InR; omega))]
                exact wp_lret dX10_level_115 rfl (⟨vl (by rw [hq, if_neg (by omega), if_neg (by omega)]; first | rw [if_pos (by omega)] | rw [if_neg (by omega)]), a, s1⟩)
              · refine wp_iload dX10_level_105 rfl ?_
                refine wp_goto 111 dX10_level_107 (by decide) ?_
                refine wp_iload dX10_level_111 rfl ?_
                refine wp_idivp dX10_level_113 (by omega) (by omega) (by unfold InR; omega) (by unfold InR; omega) ?_
                refine wp_i2l dX10_level_114 ?_
                rw [i2l_I (ediv_R (by omega) gp (by unfold InR; omega))]
                exact wp_lret dX10_level_115 rfl (⟨vl (by rw [hq, if_neg (by omega), if_neg (by omega)]; first | rw [if_pos (by omega)] | rw [if_neg (by omega)]), a, s1⟩)
            · omega
          · refine wp_aload_n dX10_level_43 rfl ?_
            refine wp_getC dX10_level_44 flX10_85 rfl rfl ?_
            refine wp_iload_n dX10_level_47 rfl ?_
            refine wp_iload_n dX10_level_48 rfl ?_
            refine wp_callVp dX10_level_49 mlX10_197 mvX6_place (S_X6_place hr (by omega) (by omega)) rfl rfl (by decide) (by decide) rfl rfl rfl (Nat.le_of_ble_eq_true rfl) ?_
            have wb : InR (plc (gapF (sG σ)) (gP (sG σ)) p w) := by
              rcases (show w = 0 ∨ w = 1 ∨ w = 2 by omega) with rfl | rfl | rfl
              · unfold plc; rw [if_pos rfl]; unfold InR; omega
              · unfold InR; omega
              · unfold InR; omega
            refine wp_i2l dX10_level_52 ?_
            rw [i2l_I wb]
            exact wp_lret dX10_level_53 rfl (⟨vl (by rw [hq, if_neg (by omega), if_pos (by omega)]), a, s1⟩)
        · refine wp_ldc2 (v := -1) dX10_level_34 klX10_201 ?_
          exact wp_lret dX10_level_37 rfl (⟨vl (by rw [hq, if_pos (by omega)]; rfl), a, s1⟩)
      · refine wp_ldc2 (v := -1) dX10_level_16 klX10_201 ?_
        exact wp_lret dX10_level_19 rfl (⟨vl (by unfold qLevel; rw [if_pos (by omega)]; rfl), a, sameM_rf h⟩)

