/-! the reference: rocky, steady, what is found by how it rocked -/
def runC (γ : Int → Int) (P sg i : Int) : Prop := sgn (γ (arnd P i)) = sg
def rlF (γ : Int → Int) (P sg p : Int) : Nat → Int → Int
  | 0, k => k
  | n + 1, k => if sgn (γ (arnd P (p + k))) = sg then rlF γ P sg p n (k + 1) else k
def mxF (γ : Int → Int) (P sg : Int) : Nat → Int → Int → Int
  | 0, _, m => m
  | n + 1, p, m => mxF γ P sg n (p + 1) (max m (rlF γ P sg p P.toNat 0))
theorem lr_char (γ : Int → Int) (P sg : Int) {k : Int} (hk : 0 < k) : ∀ (n : Nat) (p r l : Int), 0 ≤ r → r ≤ l → (∀ i, p - r ≤ i → i < p → runC γ P sg i) → (k ≤ lrF γ P sg n p r l ↔ (k ≤ l ∨ ∃ a, p - r ≤ a ∧ a + k ≤ p + n ∧ p < a + k ∧ ∀ i, a ≤ i → i < a + k → runC γ P sg i))
  | 0, p, r, l, h0, h1, hr => by
    rw [lrF]
    constructor
    · intro h; exact Or.inl h
    · rintro (h | ⟨a, h2, h3, h4, h5⟩)
      · exact h
      · omega
  | n + 1, p, r, l, h0, h1, hr => by
    rw [lrF]
    by_cases hc : sgn (γ (arnd P p)) = sg
    · rw [if_pos hc, lr_char γ P sg hk n (p + 1) (r + 1) (max l (r + 1)) (by omega) (by omega) (fun i h2 h3 => by
        by_cases e : i = p
        · rw [e]; exact hc
        · exact hr i (by omega) (by omega))]
      constructor
      · rintro (h | ⟨a, h2, h3, h4, h5⟩)
        · by_cases e : k ≤ l
          · exact Or.inl e
          · refine Or.inr ⟨p + 1 - k, by omega, by omega, by omega, fun i h2 h3 => ?_⟩
            by_cases e2 : i = p
            · rw [e2]; exact hc
            · exact hr i (by omega) (by omega)
        · exact Or.inr ⟨a, by omega, by omega, by omega, h5⟩
      · rintro (h | ⟨a, h2, h3, h4, h5⟩)
        · left; omega
        · by_cases e : a + k = p + 1
          · left; omega
          · exact Or.inr ⟨a, by omega, by omega, by omega, h5⟩
    · rw [if_neg hc, lr_char γ P sg hk n (p + 1) 0 (max l 0) (by omega) (by omega) (fun i h2 h3 => by omega)]
      constructor
      · rintro (h | ⟨a, h2, h3, h4, h5⟩)
        · left; omega
        · exact Or.inr ⟨a, by omega, by omega, by omega, h5⟩
      · rintro (h | ⟨a, h2, h3, h4, h5⟩)
        · left; omega
        · by_cases e : a ≤ p
          · exact absurd (h5 p e (by omega)) hc
          · exact Or.inr ⟨a, by omega, by omega, by omega, h5⟩
theorem rl_char (γ : Int → Int) (P sg p : Int) {k : Int} : ∀ (n : Nat) (j : Int), j + n = P → (k ≤ rlF γ P sg p n j ↔ (k ≤ j ∨ (k ≤ P ∧ ∀ i, j ≤ i → i < k → runC γ P sg (p + i))))
  | 0, j, h => by
    rw [rlF]
    constructor
    · intro q; exact Or.inl q
    · rintro (q | q) <;> omega
  | n + 1, j, h => by
    rw [rlF]
    by_cases hc : sgn (γ (arnd P (p + j))) = sg
    · rw [if_pos hc, rl_char γ P sg p n (j + 1) (by omega)]
      constructor
      · rintro (q | ⟨q, q2⟩)
        · by_cases e : k ≤ j
          · exact Or.inl e
          · refine Or.inr ⟨by omega, fun i h2 h3 => ?_⟩
            rw [show i = j by omega]; exact hc
        · refine Or.inr ⟨q, fun i h2 h3 => ?_⟩
          by_cases e : i = j
          · rw [e]; exact hc
          · exact q2 i (by omega) h3
      · rintro (q | ⟨q, q2⟩)
        · left; omega
        · exact Or.inr ⟨q, fun i h2 h3 => q2 i (by omega) h3⟩
    · rw [if_neg hc]
      constructor
      · intro q; exact Or.inl q
      · rintro (q | ⟨q, q2⟩)
        · exact q
        · by_cases e : k ≤ j
          · exact e
          · exact absurd (q2 j (by omega) (by omega)) hc
theorem mx_char (γ : Int → Int) (P sg : Int) {k : Int} : ∀ (n : Nat) (p m : Int), (k ≤ mxF γ P sg n p m ↔ (k ≤ m ∨ ∃ q, p ≤ q ∧ q < p + n ∧ k ≤ rlF γ P sg q P.toNat 0))
  | 0, p, m => by
    rw [mxF]
    constructor
    · intro q; exact Or.inl q
    · rintro (q | ⟨q, h1, h2, h3⟩)
      · exact q
      · omega
  | n + 1, p, m => by
    rw [mxF, mx_char γ P sg n (p + 1)]
    constructor
    · rintro (q | ⟨q, h1, h2, h3⟩)
      · by_cases e : k ≤ m
        · exact Or.inl e
        · exact Or.inr ⟨p, by omega, by omega, by omega⟩
      · exact Or.inr ⟨q, by omega, by omega, h3⟩
    · rintro (q | ⟨q, h1, h2, h3⟩)
      · left; omega
      · by_cases e : q = p
        · subst e; left; omega
        · exact Or.inr ⟨q, by omega, by omega, h3⟩
theorem int_le_of {x y : Int} (hy : 0 ≤ y) (h : ∀ k, 0 < k → k ≤ x → k ≤ y) : x ≤ y := by
  by_cases e : 0 < x
  · exact h x e (Int.le_refl _)
  · omega
theorem lrF_nn (γ : Int → Int) (P sg : Int) : ∀ (n : Nat) (p r l : Int), 0 ≤ l → 0 ≤ lrF γ P sg n p r l
  | 0, p, r, l, h => h
  | n + 1, p, r, l, h => by
    rw [lrF]
    split
    · exact lrF_nn γ P sg n _ _ _ (by omega)
    · exact lrF_nn γ P sg n _ _ _ (by omega)
theorem rlF_b (γ : Int → Int) (P sg p : Int) : ∀ (n : Nat) (k : Int), k ≤ rlF γ P sg p n k ∧ rlF γ P sg p n k ≤ k + n
  | 0, k => by rw [rlF]; omega
  | n + 1, k => by
    have := rlF_b γ P sg p n (k + 1)
    rw [rlF]
    split <;> omega
theorem run_eq {γ : Int → Int} {P sg : Int} (hP : 0 < P) : mxF γ P sg P.toNat 0 0 = min (lrF γ P sg (2 * P).toNat 0 0 0) P := by
  have hiff : ∀ k : Int, 0 < k → (k ≤ mxF γ P sg P.toNat 0 0 ↔ k ≤ min (lrF γ P sg (2 * P).toNat 0 0 0) P) := by
    intro k hk
    have h1 := lr_char γ P sg hk (2 * P).toNat 0 0 0 (by omega) (by omega) (fun i a b => by omega)
    have h2 := mx_char γ P sg (k := k) P.toNat 0 0
    rw [h2]
    constructor
    · rintro (q | ⟨q, q1, q2, q3⟩)
      · omega
      · rw [rl_char γ P sg q P.toNat 0 (by omega)] at q3
        rcases q3 with q3 | ⟨q3, q4⟩
        · omega
        · have : k ≤ lrF γ P sg (2 * P).toNat 0 0 0 := by
            rw [h1]
            refine Or.inr ⟨q, by omega, by omega, by omega, fun i i1 i2 => ?_⟩
            have := q4 (i - q) (by omega) (by omega)
            rw [show q + (i - q) = i by omega] at this
            exact this
          omega
    · intro q
      have q1 : k ≤ lrF γ P sg (2 * P).toNat 0 0 0 := by omega
      rw [h1] at q1
      rcases q1 with q1 | ⟨a, a1, a2, a3, a4⟩
      · omega
      · right
        by_cases e : a < P
        · refine ⟨a, by omega, by omega, ?_⟩
          rw [rl_char γ P sg a P.toNat 0 (by omega)]
          exact Or.inr ⟨by omega, fun i i1 i2 => a4 (a + i) (by omega) (by omega)⟩
        · refine ⟨a - P, by omega, by omega, ?_⟩
          rw [rl_char γ P sg (a - P) P.toNat 0 (by omega)]
          refine Or.inr ⟨by omega, fun i i1 i2 => ?_⟩
          have := a4 (a + i) (by omega) (by omega)
          unfold runC arnd at this ⊢
          rw [if_pos (by omega)] at this
          rw [if_neg (by omega), show a - P + i = a + i - P by omega]
          exact this
  have m0 : 0 ≤ mxF γ P sg P.toNat 0 0 := (mx_char γ P sg P.toNat 0 0).mpr (Or.inl (Int.le_refl _))
  have l0 : 0 ≤ min (lrF γ P sg (2 * P).toNat 0 0 0) P := by
    by_cases e : 0 ≤ lrF γ P sg (2 * P).toNat 0 0 0
    · omega
    · exfalso
      have := lrF_nn γ P sg (2 * P).toNat 0 0 0 (Int.le_refl _)
      omega
  refine Int.le_antisymm (int_le_of l0 (fun k h1 h2 => (hiff k h1).mp h2)) (int_le_of m0 (fun k h1 h2 => (hiff k h1).mpr h2))

set_option maxRecDepth 20000 in
theorem S_X11_longest {X : Cx} {h : Hp} {γ : Int → Int} {P sg V : Int} (g : GB2 (GM h)) (hγ : γ = gapF (GM h)) (hP : P = gP (GM h)) (hsg : -1 ≤ sg ∧ sg ≤ 1) (hV0 : V = mxF γ P sg P.toNat 0 0) : Spec X mX11_longest 5 [.ref (adr X 47), .int (iI sg)] h (fun rv h' => rv = some (.int (iI V)) ∧ h' = h) := by
  have e4 : P = hI h 47 24 := hP
  have g1 := g.1
  rw [← hP] at g1
  refine spec_wp (Nat.le_of_ble_eq_true rfl) (by decide +kernel) ?_
  refine wp_loc [(0, .ref (adr X 47)), (1, .int (iI sg))] ⟨rfl, rfl, trivial⟩ ?_
  have L : ∀ (n : Nat) (p m : Int), (p + n = P ∧ 0 ≤ p) → (0 ≤ m ∧ m ≤ 24) → (V = mxF γ P sg n p m) → WP X mX11_longest 5 4 [(0, .ref (adr X 47)), (1, .int (iI sg)), (2, .int (iI m)), (3, .int (iI p))] [] h (fun rv h' => rv = some (.int (iI V)) ∧ h' = h) := by
    intro n
    induction n with
    | zero =>
      intro p m hn hm hV
      refine wp_iload_n dX11_longest_4 rfl ?_
      refine wp_aload_n dX11_longest_5 rfl ?_
      refine wp_getI dX11_longest_6 flX11_272 rfl rfl ?_
      rw [← e4]
      refine wp_icmpge 63 dX11_longest_9 (by decide) (by unfold InR; omega) (by unfold InR; omega) (fun c9 => ?_) (fun c9 => ?_)
      · refine wp_iload_n dX11_longest_63 rfl ?_
        exact wp_iret dX11_longest_64 rfl (⟨vi (by rw [hV]; rfl), rfl⟩)
      · exact absurd c9 (by omega)
    | succ n iho =>
      intro p m hn hm hV
      refine wp_iload_n dX11_longest_4 rfl ?_
      refine wp_aload_n dX11_longest_5 rfl ?_
      refine wp_getI dX11_longest_6 flX11_272 rfl rfl ?_
      rw [← e4]
      refine wp_icmpge 63 dX11_longest_9 (by decide) (by unfold InR; omega) (by unfold InR; omega) (fun c9 => ?_) (fun c9 => ?_)
      · exact absurd c9 (by omega)
      · refine wp_iconst dX11_longest_12 ?_
        refine wp_istore dX11_longest_13 (by decide) ?_
        obtain ⟨U, hU0⟩ : ∃ U, U = rlF γ P sg p P.toNat 0 := ⟨_, rfl⟩
        have Ub := rlF_b γ P sg p P.toNat 0
        rw [mxF, ← hU0] at hV
        rw [← hU0] at Ub
        have K50 : WP X mX11_longest 5 50 [(0, .ref (adr X 47)), (1, .int (iI sg)), (2, .int (iI m)), (3, .int (iI p)), (4, .int (iI U))] [] h (fun rv h' => rv = some (.int (iI V)) ∧ h' = h) := by
          refine wp_iload_n dX11_longest_50 rfl ?_
          refine wp_iload dX11_longest_51 rfl ?_
          refine wp_callSp dX11_longest_53 mlX11_308 msJ9_max_7cf53 (S_J9_max_7cf53 (by unfold InR; omega) (by unfold InR; omega)) rfl rfl (by decide) (by decide) (Nat.le_of_ble_eq_true rfl) ?_
          refine wp_istore_n dX11_longest_56 (by decide) ?_
          refine wp_iinc dX11_longest_57 rfl (by decide) ?_
          refine wp_goto 4 dX11_longest_60 (by decide) ?_
          refine wp_loc [(0, .ref (adr X 47)), (1, .int (iI sg)), (2, .int (iI (max m U))), (3, .int (iI (p + 1)))] ⟨rfl, rfl, rfl, rfl, trivial⟩ ?_
          exact iho (p + 1) (max m U) (by omega) (by omega) hV
        have Li : ∀ (n2 : Nat) (k : Int), (k + n2 = P ∧ 0 ≤ k) → (U = rlF γ P sg p n2 k) → WP X mX11_longest 5 15 [(0, .ref (adr X 47)), (1, .int (iI sg)), (2, .int (iI m)), (3, .int (iI p)), (4, .int (iI k))] [] h (fun rv h' => rv = some (.int (iI V)) ∧ h' = h) := by
          intro n2
          induction n2 with
          | zero =>
            intro k hk hU
            refine wp_iload dX11_longest_15 rfl ?_
            refine wp_aload_n dX11_longest_17 rfl ?_
            refine wp_getI dX11_longest_18 flX11_272 rfl rfl ?_
            rw [← e4]
            refine wp_icmpge 50 dX11_longest_21 (by decide) (by unfold InR; omega) (by unfold InR; omega) (fun c21 => ?_) (fun c21 => ?_)
            · have hU : U = k := hU
              rw [← hU]
              exact K50
            · exact absurd c21 (by omega)
          | succ n2 ihi =>
            intro k hk hU
            refine wp_iload dX11_longest_15 rfl ?_
            refine wp_aload_n dX11_longest_17 rfl ?_
            refine wp_getI dX11_longest_18 flX11_272 rfl rfl ?_
            rw [← e4]
            refine wp_icmpge 50 dX11_longest_21 (by decide) (by unfold InR; omega) (by unfold InR; omega) (fun c21 => ?_) (fun c21 => ?_)
            · exact absurd c21 (by omega)
            · refine wp_aload_n dX11_longest_24 rfl ?_
              refine wp_iload_n dX11_longest_25 rfl ?_
              refine wp_iload dX11_longest_26 rfl ?_
              refine wp_iadd dX11_longest_28 ?_
              refine wp_aload_n dX11_longest_29 rfl ?_
              refine wp_getI dX11_longest_30 flX11_272 rfl rfl ?_
              rw [← e4]
              refine wp_iremp dX11_longest_33 (by omega) (by omega) (by unfold InR; omega) (by unfold InR; omega) ?_
              rw [show (p + k) % P = arnd P (p + k) from arnd_mod (by omega) (by omega)]
              have nb := arnd_b (P := P) (p := p + k) (by omega)
              refine wp_callVp dX11_longest_34 mlX11_310 mvX11_gapOf (S_X11_gapOf (p := arnd P (p + k)) g (by omega)) rfl rfl (by decide) (by decide) rfl rfl rfl (Nat.le_of_ble_eq_true rfl) ?_
              refine wp_callSp dX11_longest_37 mlX11_355 msJ6_signum_0f7a4 (S_J6_signum_0f7a4 (by have := gap_b2 g (arnd P (p + k)); unfold InR; omega)) rfl rfl (by decide) (by decide) (Nat.le_of_ble_eq_true rfl) ?_
              rw [← hγ]
              have sb := sgn_b (γ (arnd P (p + k)))
              rw [rlF] at hU
              refine wp_iload_n dX11_longest_40 rfl ?_
              refine wp_icmpne 50 dX11_longest_41 (by decide) (by unfold InR; omega) (by unfold InR; omega) (fun c41 => ?_) (fun c41 => ?_)
              · rw [if_neg c41] at hU
                rw [← hU]
                exact K50
              · refine wp_iinc dX11_longest_44 rfl (by decide) ?_
                refine wp_goto 15 dX11_longest_47 (by decide) ?_
                rw [if_pos c41] at hU
                refine wp_loc [(0, .ref (adr X 47)), (1, .int (iI sg)), (2, .int (iI m)), (3, .int (iI p)), (4, .int (iI (k + 1)))] ⟨rfl, rfl, rfl, rfl, rfl, trivial⟩ ?_
                exact ihi (k + 1) (by omega) hU
        refine wp_loc [(0, .ref (adr X 47)), (1, .int (iI sg)), (2, .int (iI m)), (3, .int (iI p)), (4, .int (iI 0))] ⟨rfl, rfl, rfl, rfl, rfl, trivial⟩ ?_
        exact Li P.toNat 0 (by omega) hU0
  refine wp_iconst dX11_longest_0 ?_
  refine wp_istore_n dX11_longest_1 (by decide) ?_
  refine wp_iconst dX11_longest_2 ?_
  refine wp_istore_n dX11_longest_3 (by decide) ?_
  refine wp_loc [(0, .ref (adr X 47)), (1, .int (iI sg)), (2, .int (iI 0)), (3, .int (iI 0))] ⟨rfl, rfl, rfl, rfl, trivial⟩ ?_
  exact L P.toNat 0 0 (by omega) (by omega) hV0

set_option maxRecDepth 20000 in
theorem S_X11_rocky {X : Cx} {h : Hp} {σ : Sg} (am : AM h σ) (o : SOK σ) {w : Int} (hw : InR w) : Spec X mX11_rocky 60 [.ref (adr X 47), .int (iI w)] h (fun rv h' => rv = some (.int (iI (qRocky σ w))) ∧ AM h' σ ∧ sameC h h') := by
  refine spec_wp (Nat.le_of_ble_eq_true rfl) (by decide +kernel) ?_
  refine wp_loc [(0, .ref (adr X 47)), (1, .int (iI w))] ⟨rfl, rfl, trivial⟩ ?_
  refine wp_aload_n dX11_rocky_0 rfl ?_
  refine wp_iconst dX11_rocky_1 ?_
  refine wp_putI dX11_rocky_2 plX11_95 rfl rfl ?_
  have k0 : KM h (sI h 47 0 0) := KM.sI (by unfold SMx; omega)
  have am := am.km k0
  generalize sI h 47 0 0 = h0 at *
  have gk := o.2.2.2.1
  have gb := gk.b
  have gkb := gk.2.1
  have e4 : hI h0 47 24 = gP (sG σ) := am.2.2.2.2.1.1
  have e5 : hI h0 47 26 = gA (sG σ) := am.2.2.2.2.1.2.1
  have e6 : hI h0 47 27 = gK (sG σ) := am.2.2.2.2.1.2.2.1
  have em : GM h0 = gE (sG σ) := am.gm
  have ep : gP (GM h0) = gP (sG σ) := e4
  obtain ⟨V, hV0⟩ : ∃ V : Int, V = qRocky σ w := ⟨_, rfl⟩
  rw [← hV0]
  unfold qRocky at hV0
  have g0 := gk.1
  refine wp_aload_n dX11_rocky_5 rfl ?_
  refine wp_getI dX11_rocky_6 flX11_272 rfl rfl ?_
  refine wp_ifeq 24 dX11_rocky_9 (by decide) (by first | assumption | (unfold InR; omega)) (fun c9 => ?_) (fun c9 => ?_)
  · refine wp_iconst dX11_rocky_24 ?_
    exact wp_iret dX11_rocky_25 rfl (⟨vi (by rw [hV0, if_pos (by omega)]), am, k0.C⟩)
  · refine wp_iload_n dX11_rocky_12 rfl ?_
    refine wp_i2lI dX11_rocky_13 (by first | assumption | (unfold InR; omega)) ?_
    refine wp_lconst (v := 0) dX11_rocky_14 rfl ?_
    refine wp_ldc2 (v := 2) dX11_rocky_15 klX11_324 ?_
    refine wp_callSp dX11_rocky_18 mlX11_219 msX11_isIn (S_X11_isIn (a := w) (b := 0) (c := 2) (by first | (exact InR.L (by assumption)) | (unfold InL; omega)) (by unfold InL; omega) (by unfold InL; omega)) rfl rfl (by decide) (by decide) (Nat.le_of_ble_eq_true rfl) ?_
    refine wp_ifneb 26 dX11_rocky_21 (by decide) (fun c21 => ?_) (fun c21 => ?_)
    · refine wp_iload_n dX11_rocky_26 rfl ?_
      refine wp_ifle 45 dX11_rocky_27 (by decide) (by first | assumption | (unfold InR; omega)) (fun c27 => ?_) (fun c27 => ?_)
      · refine wp_iconst dX11_rocky_45 ?_
        refine wp_istore_n dX11_rocky_46 (by decide) ?_
        refine wp_iconst dX11_rocky_47 ?_
        refine wp_istore_n dX11_rocky_48 (by decide) ?_
        have L : ∀ (n : Nat) (p a : Int), (p + n = gP (sG σ) ∧ 0 ≤ p ∧ 0 ≤ a ∧ a ≤ 400 * p) → (V = asF (gapF (sG σ)) n p a) → WP X mX11_rocky 60 49 [(0, .ref (adr X 47)), (1, .int (iI w)), (2, .int (iI a)), (3, .int (iI p))] [] h0 (fun rv h' => rv = some (.int (iI V)) ∧ AM h' σ ∧ sameC h h') := by
          intro n
          induction n with
          | zero =>
            intro p a hn hV
            refine wp_iload_n dX11_rocky_49 rfl ?_
            refine wp_aload_n dX11_rocky_50 rfl ?_
            refine wp_getI dX11_rocky_51 flX11_272 rfl rfl ?_
            refine wp_icmpge 74 dX11_rocky_54 (by decide) (by unfold InR; omega) (by unfold InR; omega) (fun c54 => ?_) (fun c54 => ?_)
            · refine wp_iload_n dX11_rocky_74 rfl ?_
              exact wp_iret dX11_rocky_75 rfl (⟨vi (by rw [hV]; rfl), am, k0.C⟩)
            · exact absurd c54 (by omega)
          | succ n ih =>
            intro p a hn hV
            refine wp_iload_n dX11_rocky_49 rfl ?_
            refine wp_aload_n dX11_rocky_50 rfl ?_
            refine wp_getI dX11_rocky_51 flX11_272 rfl rfl ?_
            refine wp_icmpge 74 dX11_rocky_54 (by decide) (by unfold InR; omega) (by unfold InR; omega) (fun c54 => ?_) (fun c54 => ?_)
            · exact absurd c54 (by omega)
            · refine wp_iload_n dX11_rocky_57 rfl ?_
              refine wp_aload_n dX11_rocky_58 rfl ?_
              refine wp_iload_n dX11_rocky_59 rfl ?_
              refine wp_callVp dX11_rocky_60 mlX11_310 mvX11_gapOf (S_X11_gapOf (am.b2 o (by omega)) (by omega)) rfl rfl (by decide) (by decide) rfl rfl rfl (Nat.le_of_ble_eq_true rfl) ?_
              rw [em]
              have vb := gapF_b gk p
              have ub := iabs_b (n := 396) vb
              refine wp_callSp dX11_rocky_63 mlX11_305 msJ9_abs_0f7a4 (S_J9_abs_0f7a4 (a := gapF (sG σ) p) (by unfold InR; omega)) rfl rfl (by decide) (by decide) (Nat.le_of_ble_eq_true rfl) ?_
              refine wp_iadd dX11_rocky_66 ?_
              refine wp_istore_n dX11_rocky_67 (by decide) ?_
              refine wp_iinc dX11_rocky_68 rfl (by decide) ?_
              refine wp_goto 49 dX11_rocky_71 (by decide) ?_
              refine wp_loc [(0, .ref (adr X 47)), (1, .int (iI w)), (2, .int (iI (a + iabs (gapF (sG σ) p)))), (3, .int (iI (p + 1)))] ⟨rfl, rfl, rfl, rfl, trivial⟩ ?_
              exact ih (p + 1) _ (by omega) hV
        refine wp_loc [(0, .ref (adr X 47)), (1, .int (iI w)), (2, .int (iI 0)), (3, .int (iI 0))] ⟨rfl, rfl, rfl, rfl, trivial⟩ ?_
        exact L (gP (sG σ)).toNat 0 0 (by omega) (by rw [hV0, if_neg (by omega), if_pos (by omega)])
      · refine wp_aload_n dX11_rocky_30 rfl ?_
        refine wp_iload_n dX11_rocky_31 rfl ?_
        refine wp_iconst dX11_rocky_32 ?_
        refine wp_icmpne 40 dX11_rocky_33 (by decide) (by first | assumption | (unfold InR; omega)) (by first | assumption | (unfold InR; omega)) (fun c33 => ?_) (fun c33 => ?_)
        · refine wp_iconst dX11_rocky_40 ?_
          refine wp_callVp dX11_rocky_41 mlX11_381 mvX11_longest (S_X11_longest (γ := gapF (sG σ)) (P := gP (sG σ)) (sg := (-1)) (V := mxF (gapF (sG σ)) (gP (sG σ)) (-1) (gP (sG σ)).toNat 0 0) (am.b2 o (by omega)) (by rw [em]; rfl) (by rw [em]; rfl) (by omega) rfl) rfl rfl (by decide) (by decide) rfl rfl rfl (Nat.le_of_ble_eq_true rfl) ?_
          exact wp_iret dX11_rocky_44 rfl (⟨vi (by rw [hV0, if_neg (by omega), if_neg (by omega), if_neg c33]; exact run_eq (by omega)), am, k0.C⟩)
        · refine wp_iconst dX11_rocky_36 ?_
          refine wp_goto 41 dX11_rocky_37 (by decide) ?_
          refine wp_callVp dX11_rocky_41 mlX11_381 mvX11_longest (S_X11_longest (γ := gapF (sG σ)) (P := gP (sG σ)) (sg := 1) (V := mxF (gapF (sG σ)) (gP (sG σ)) 1 (gP (sG σ)).toNat 0 0) (am.b2 o (by omega)) (by rw [em]; rfl) (by rw [em]; rfl) (by omega) rfl) rfl rfl (by decide) (by decide) rfl rfl rfl (Nat.le_of_ble_eq_true rfl) ?_
          exact wp_iret dX11_rocky_44 rfl (⟨vi (by rw [hV0, if_neg (by omega), if_neg (by omega), if_pos c33]; exact run_eq (by omega)), am, k0.C⟩)
    · refine wp_iconst dX11_rocky_24 ?_
      exact wp_iret dX11_rocky_25 rfl (⟨vi (by rw [hV0, if_pos (by omega)]), am, k0.C⟩)

def gEA (G : Gdn) (A : Int) : Gdn := ((gP G, A, 0), gH G, gS G, (fun _ => 0), fun _ => 0)
def SAn (c j : Nat) : Prop := SST c j ∨ (c = 47 ∧ j = 26)
theorem GM_an {h h1 : Hp} {σ : Sg} (am : AM h σ) (k : Kp SAn h h1) (A : Int) : GM (sI h1 47 26 A) = gEA (sG σ) A := by
  obtain ⟨-, -, -, -, ⟨g1, g2, g3, g4, g5, g6⟩, -, -, -⟩ := am
  unfold GM gEA
  have e1 : hM (sI h1 47 26 A) = hM h := hM_eq (by rw [hI_sI, if_neg (by omega)]; exact k.1 47 24 (by unfold SAn SST; omega)) (fun i => by rw [hI_sI, if_neg (by omega)]; exact k.1 52 i (by unfold SAn SST; omega))
  have e2 : sM (sI h1 47 26 A) = sM h := sM_eq (fun i => by rw [hI_sI, if_neg (by omega)]; exact k.1 54 i (by unfold SAn SST; omega))
  rw [e1, e2, g4, g5, hI_sI, if_neg (by omega), hI_same, k.1 47 24 (by unfold SAn SST; omega), g1]
theorem gEA_b {G : Gdn} (g : GOK G) (hp : 0 < gP G) {A : Int} (hA : 1 ≤ A ∧ 2 * A < gP G) : GB2 (gEA G A) := by
  have := g.b
  exact ⟨by show 4 ≤ gP G ∧ gP G ≤ 24 ∧ gP G % 2 = 0; omega, hA, g.h, g.s⟩
theorem SAn.back {h h1 : Hp} (k : Kp SAn h h1) : KM h (sI h1 47 26 (hI h 47 26)) := by
  refine ⟨fun c j q => ?_, fun _ _ => by show h1.2.1 _ = _; rw [k.2], fun _ _ _ => by show h1.2.2 _ _ = _; rw [k.2]; rfl, Or.inl (by show h1.2.2 _ _ = _; rw [k.2]; rfl)⟩
  rw [hI_sI]
  by_cases e : c = 47 ∧ j = 26
  · rw [if_pos e, e.1, e.2]
  · rw [if_neg e]
    exact k.1 c j (fun z => by
      rcases z with z | z
      · exact q (by unfold SST at z; unfold SMx; omega)
      · exact e z)

set_option maxRecDepth 20000 in
theorem S_X11_steady {X : Cx} {h : Hp} {σ : Sg} (am : AM h σ) (o : SOK σ) {w : Int} (hw : InR w) : Spec X mX11_steady 60 [.ref (adr X 47), .int (iI w)] h (fun rv h' => rv = some (.int (iI (qSteady σ w))) ∧ AM h' σ ∧ sameC h h') := by
  refine spec_wp (Nat.le_of_ble_eq_true rfl) (by decide +kernel) ?_
  refine wp_loc [(0, .ref (adr X 47)), (1, .int (iI w))] ⟨rfl, rfl, trivial⟩ ?_
  refine wp_aload_n dX11_steady_0 rfl ?_
  refine wp_iconst dX11_steady_1 ?_
  refine wp_putI dX11_steady_2 plX11_95 rfl rfl ?_
  have k0 : KM h (sI h 47 0 0) := KM.sI (by unfold SMx; omega)
  have am := am.km k0
  generalize sI h 47 0 0 = h0 at *
  have gk := o.2.2.2.1
  have gb := gk.b
  have gkb := gk.2.1
  have e4 : hI h0 47 24 = gP (sG σ) := am.2.2.2.2.1.1
  have e5 : hI h0 47 26 = gA (sG σ) := am.2.2.2.2.1.2.1
  have e6 : hI h0 47 27 = gK (sG σ) := am.2.2.2.2.1.2.2.1
  have em : GM h0 = gE (sG σ) := am.gm
  have ep : gP (GM h0) = gP (sG σ) := e4
  obtain ⟨V, hV0⟩ : ∃ V : Int, V = qSteady σ w := ⟨_, rfl⟩
  rw [← hV0]
  unfold qSteady at hV0
  have g0 := gk.1
  refine wp_aload_n dX11_steady_5 rfl ?_
  refine wp_getI dX11_steady_6 flX11_272 rfl rfl ?_
  refine wp_ifeq 22 dX11_steady_9 (by decide) (by first | assumption | (unfold InR; omega)) (fun c9 => ?_) (fun c9 => ?_)
  · refine wp_iconst dX11_steady_22 ?_
    exact wp_iret dX11_steady_23 rfl (⟨vi (by rw [hV0, if_pos (by omega)]), am, k0.C⟩)
  · refine wp_iload_n dX11_steady_12 rfl ?_
    refine wp_i2lI dX11_steady_13 (by first | assumption | (unfold InR; omega)) ?_
    refine wp_lconst (v := 0) dX11_steady_14 rfl ?_
    refine wp_lconst (v := 1) dX11_steady_15 rfl ?_
    refine wp_callSp dX11_steady_16 mlX11_219 msX11_isIn (S_X11_isIn (a := w) (b := 0) (c := 1) (by first | (exact InR.L (by assumption)) | (unfold InL; omega)) (by unfold InL; omega) (by unfold InL; omega)) rfl rfl (by decide) (by decide) (Nat.le_of_ble_eq_true rfl) ?_
    refine wp_ifneb 24 dX11_steady_19 (by decide) (fun c19 => ?_) (fun c19 => ?_)
    · refine wp_aload_n dX11_steady_24 rfl ?_
      refine wp_getI dX11_steady_25 flX11_278 rfl rfl ?_
      refine wp_istore_n dX11_steady_28 (by decide) ?_
      refine wp_iconst dX11_steady_29 ?_
      refine wp_istore_n dX11_steady_30 (by decide) ?_
      refine wp_iconst dX11_steady_31 ?_
      refine wp_istore dX11_steady_32 (by decide) ?_
      refine wp_iconst dX11_steady_34 ?_
      refine wp_istore dX11_steady_35 (by decide) ?_
      have L : ∀ (n : Nat) (A f m : Int) (h1 : Hp), (A + n = gP (sG σ) / 2 ∧ 1 ≤ A) → ((A = 1 ∨ ¬ f = -1) ∧ -1 ≤ f ∧ f ≤ 24 ∧ 0 ≤ m ∧ m ≤ 24) → (Kp SAn h0 h1) → (V = sel2 w (sdF (sG σ) n A f (if f = -1 then -1 else m))) → WP X mX11_steady 60 37 [(0, .ref (adr X 47)), (1, .int (iI w)), (2, .int (iI (hI h0 47 26))), (3, .int (iI f)), (4, .int (iI m)), (5, .int (iI A))] [] h1 (fun rv h' => rv = some (.int (iI V)) ∧ AM h' σ ∧ sameC h h') := by
        intro n
        induction n with
        | zero =>
          intro A f m h1 hn hf kp hV
          have e24 : hI h1 47 24 = gP (sG σ) := by rw [kp.1 47 24 (by unfold SAn SST; omega)]; exact e4
          refine wp_iconst dX11_steady_37 ?_
          refine wp_iload dX11_steady_38 rfl ?_
          refine wp_imul dX11_steady_40 ?_
          refine wp_aload_n dX11_steady_41 rfl ?_
          refine wp_getI dX11_steady_42 flX11_272 rfl rfl ?_
          rw [e24]
          refine wp_icmpge 90 dX11_steady_45 (by decide) (by first | assumption | (unfold InR; omega)) (by first | assumption | (unfold InR; omega)) (fun c45 => ?_) (fun c45 => ?_)
          · refine wp_aload_n dX11_steady_90 rfl ?_
            refine wp_iload_n dX11_steady_91 rfl ?_
            refine wp_putI dX11_steady_92 plX11_278 rfl rfl ?_
            refine wp_iload_n dX11_steady_95 rfl ?_
            refine wp_ifne 103 dX11_steady_96 (by decide) (by first | assumption | (unfold InR; omega)) (fun c96 => ?_) (fun c96 => ?_)
            · refine wp_iload dX11_steady_103 rfl ?_
              exact wp_iret dX11_steady_105 rfl (by
        have k9 := SAn.back kp
        have hV : V = sel2 w (f, (if f = -1 then -1 else m)) := hV
        rw [if_neg (by omega)] at hV
        unfold sel2 at hV
        rw [if_neg c96] at hV
        exact ⟨vi hV.symm, am.km k9, (k0.tr k9).C⟩)
            · refine wp_iload_n dX11_steady_99 rfl ?_
              refine wp_goto 105 dX11_steady_100 (by decide) ?_
              exact wp_iret dX11_steady_105 rfl (by
        have k9 := SAn.back kp
        have hV : V = sel2 w (f, (if f = -1 then -1 else m)) := hV
        rw [if_neg (by omega)] at hV
        unfold sel2 at hV
        rw [if_pos c96] at hV
        exact ⟨vi hV.symm, am.km k9, (k0.tr k9).C⟩)
          · exact absurd c45 (by omega)
        | succ n ih =>
          intro A f m h1 hn hf kp hV
          have e24 : hI h1 47 24 = gP (sG σ) := by rw [kp.1 47 24 (by unfold SAn SST; omega)]; exact e4
          refine wp_iconst dX11_steady_37 ?_
          refine wp_iload dX11_steady_38 rfl ?_
          refine wp_imul dX11_steady_40 ?_
          refine wp_aload_n dX11_steady_41 rfl ?_
          refine wp_getI dX11_steady_42 flX11_272 rfl rfl ?_
          rw [e24]
          refine wp_icmpge 90 dX11_steady_45 (by decide) (by first | assumption | (unfold InR; omega)) (by first | assumption | (unfold InR; omega)) (fun c45 => ?_) (fun c45 => ?_)
          · exact absurd c45 (by omega)
          · refine wp_aload_n dX11_steady_48 rfl ?_
            refine wp_iload dX11_steady_49 rfl ?_
            refine wp_putI dX11_steady_51 plX11_278 rfl rfl ?_
            refine wp_aload_n dX11_steady_54 rfl ?_
            refine wp_callV dX11_steady_55 mlX11_326 mvX11_layStands (S_X11_layStands (γ := gapA (sG σ) A) (P := gP (sG σ)) (by rw [GM_an am kp A]; exact gEA_b gk (by omega) (by omega)) (by rw [GM_an am kp A]; rfl) (by rw [GM_an am kp A]; rfl) rfl) rfl rfl (by decide) (by decide) rfl rfl rfl (Nat.le_of_ble_eq_true rfl) ?_
            rintro rv h2 ⟨rfl, st2, kp2⟩
            have kp3 : Kp SAn h0 h2 := (kp.tr (Kp.sI (Or.inr ⟨rfl, rfl⟩))).tr (kp2.mono (fun c j q => Or.inl q))
            have ll := stLs_len (stb (gapA (sG σ) A) (gP (sG σ))) (gP (sG σ)).toNat 0
            have cl := cnt_L (stb (gapA (sG σ) A) (gP (sG σ))) (gP (sG σ)).toNat 0 0
            have s35 : hI h2 47 35 = (cntF (stb (gapA (sG σ) A) (gP (sG σ))) (gP (sG σ)).toNat 0 0) := by rw [st2.1, cl]; omega
            rw [sdF] at hV
            refine wp_iload_n dX11_steady_58 rfl ?_
            refine wp_iconst dX11_steady_59 ?_
            refine wp_icmpeq 75 dX11_steady_60 (by decide) (by first | assumption | (unfold InR; omega)) (by first | assumption | (unfold InR; omega)) (fun c60 => ?_) (fun c60 => ?_)
            · refine wp_iload dX11_steady_75 rfl ?_
              refine wp_istore_n dX11_steady_77 (by decide) ?_
              refine wp_aload_n dX11_steady_78 rfl ?_
              refine wp_getI dX11_steady_79 flX11_317 rfl rfl ?_
              rw [s35]
              refine wp_istore dX11_steady_82 (by decide) ?_
              refine wp_iinc dX11_steady_84 rfl (by decide) ?_
              refine wp_goto 37 dX11_steady_87 (by decide) ?_
              rw [if_pos (by rw [if_pos c60]; omega)] at hV
              refine wp_loc [(0, .ref (adr X 47)), (1, .int (iI w)), (2, .int (iI (hI h0 47 26))), (3, .int (iI A)), (4, .int (iI (cntF (stb (gapA (sG σ) A) (gP (sG σ))) (gP (sG σ)).toNat 0 0))), (5, .int (iI (A + 1)))] ⟨rfl, rfl, rfl, rfl, rfl, rfl, trivial⟩ ?_
              exact ih (A + 1) A _ h2 (by omega) (by omega) kp3 (by rw [if_neg (show ¬ A = -1 by omega)]; exact hV)
            · refine wp_aload_n dX11_steady_63 rfl ?_
              refine wp_getI dX11_steady_64 flX11_317 rfl rfl ?_
              rw [s35]
              refine wp_iload dX11_steady_67 rfl ?_
              refine wp_icmpgt 75 dX11_steady_69 (by decide) (by first | assumption | (unfold InR; omega)) (by first | assumption | (unfold InR; omega)) (fun c69 => ?_) (fun c69 => ?_)
              · refine wp_iload dX11_steady_75 rfl ?_
                refine wp_istore_n dX11_steady_77 (by decide) ?_
                refine wp_aload_n dX11_steady_78 rfl ?_
                refine wp_getI dX11_steady_79 flX11_317 rfl rfl ?_
                rw [s35]
                refine wp_istore dX11_steady_82 (by decide) ?_
                refine wp_iinc dX11_steady_84 rfl (by decide) ?_
                refine wp_goto 37 dX11_steady_87 (by decide) ?_
                rw [if_pos (by rw [if_neg c60]; omega)] at hV
                refine wp_loc [(0, .ref (adr X 47)), (1, .int (iI w)), (2, .int (iI (hI h0 47 26))), (3, .int (iI A)), (4, .int (iI (cntF (stb (gapA (sG σ) A) (gP (sG σ))) (gP (sG σ)).toNat 0 0))), (5, .int (iI (A + 1)))] ⟨rfl, rfl, rfl, rfl, rfl, rfl, trivial⟩ ?_
                exact ih (A + 1) A _ h2 (by omega) (by omega) kp3 (by rw [if_neg (show ¬ A = -1 by omega)]; exact hV)
              · refine wp_goto 84 dX11_steady_72 (by decide) ?_
                refine wp_iinc dX11_steady_84 rfl (by decide) ?_
                refine wp_goto 37 dX11_steady_87 (by decide) ?_
                rw [if_neg (by rw [if_neg c60]; omega)] at hV
                refine wp_loc [(0, .ref (adr X 47)), (1, .int (iI w)), (2, .int (iI (hI h0 47 26))), (3, .int (iI f)), (4, .int (iI m)), (5, .int (iI (A + 1)))] ⟨rfl, rfl, rfl, rfl, rfl, rfl, trivial⟩ ?_
                exact ih (A + 1) f m h2 (by omega) (by omega) kp3 hV
      refine wp_loc [(0, .ref (adr X 47)), (1, .int (iI w)), (2, .int (iI (hI h0 47 26))), (3, .int (iI (-1))), (4, .int (iI 0)), (5, .int (iI 1))] ⟨rfl, rfl, rfl, rfl, rfl, rfl, trivial⟩ ?_
      exact L (gP (sG σ) / 2 - 1).toNat 1 (-1) 0 h0 (by omega) (by omega) (Kp.rf h0) (by rw [hV0, if_neg (by omega), if_pos rfl])
    · refine wp_iconst dX11_steady_22 ?_
      exact wp_iret dX11_steady_23 rfl (⟨vi (by rw [hV0, if_pos (by omega)]), am, k0.C⟩)

def RKD (h : Hp) (P : Int) (R : List (Int × Int)) : Prop := hI h 47 42 = R.length ∧ R.length ≤ 20 ∧ ∀ (i : Nat) (q : Int × Int), R[i]? = some q → (hI h 63 i = q.1 ∧ hI h 64 i = q.2) ∧ (0 ≤ q.1 ∧ q.1 < P) ∧ -1 ≤ q.2 ∧ q.2 ≤ 1
def soG (γ : Int → Int) (q : Int × Int) : Bool := decide (sgn (γ q.1) = q.2)
theorem AM.rk {h : Hp} {σ : Sg} (am : AM h σ) (o : SOK σ) : RKD h (gP (sG σ)) (sR_ σ) := by
  obtain ⟨-, -, -, -, -, ⟨k1, k2⟩, -, -⟩ := am
  have hr := o.2.2.2.2.1
  exact ⟨k1, hr.1, fun i q hq => ⟨k2 i q hq, by have := hr.2 q (List.mem_of_getElem? hq); omega, by have := hr.2 q (List.mem_of_getElem? hq); omega⟩⟩
theorem RKD.kp {h h' : Hp} {P : Int} {R : List (Int × Int)} (r : RKD h P R) (h1 : hI h' 47 42 = hI h 47 42) (h2 : ∀ i, hI h' 63 i = hI h 63 i) (h3 : ∀ i, hI h' 64 i = hI h 64 i) : RKD h' P R := ⟨by rw [h1]; exact r.1, r.2.1, fun i q hq => by rw [h2, h3]; exact r.2.2 i q hq⟩

set_option maxRecDepth 20000 in
theorem S_X11_wasSo {X : Cx} {h : Hp} {γ : Int → Int} {P : Int} {R : List (Int × Int)} (g : GB2 (GM h)) (hγ : γ = gapF (GM h)) (hP : P = gP (GM h)) (r : RKD h P R) : Spec X mX11_wasSo 4 [.ref (adr X 47)] h (fun rv h' => rv = some (.int (iI (b2i (R.all (soG γ) = true)))) ∧ h' = h) := by
  have r1 := r.1
  have r20 := r.2.1
  have g1 := g.1
  rw [← hP] at g1
  refine spec_wp (Nat.le_of_ble_eq_true rfl) (by decide +kernel) ?_
  refine wp_loc [(0, .ref (adr X 47))] ⟨rfl, trivial⟩ ?_
  have L : ∀ (n : Nat) (i : Nat), (i + n = R.length) → ((R.take i).all (soG γ) = true) → WP X mX11_wasSo 4 2 [(0, .ref (adr X 47)), (1, .int (iI (i : Int)))] [] h (fun rv h' => rv = some (.int (iI (b2i (R.all (soG γ) = true)))) ∧ h' = h) := by
    intro n
    induction n with
    | zero =>
      intro i hn ha
      refine wp_iload_n dX11_wasSo_2 rfl ?_
      refine wp_aload_n dX11_wasSo_3 rfl ?_
      refine wp_getI dX11_wasSo_4 flX11_281 rfl rfl ?_
      rw [r1]
      refine wp_icmpge 40 dX11_wasSo_7 (by decide) (by unfold InR; omega) (by unfold InR; omega) (fun c7 => ?_) (fun c7 => ?_)
      · refine wp_iconst dX11_wasSo_40 ?_
        exact wp_zret dX11_wasSo_41 rfl (by omega) (⟨vb1 (by rw [show i = R.length by omega, List.take_length] at ha; exact ha), rfl⟩)
      · exact absurd c7 (by omega)
    | succ n ih =>
      intro i hn ha
      refine wp_iload_n dX11_wasSo_2 rfl ?_
      refine wp_aload_n dX11_wasSo_3 rfl ?_
      refine wp_getI dX11_wasSo_4 flX11_281 rfl rfl ?_
      rw [r1]
      refine wp_icmpge 40 dX11_wasSo_7 (by decide) (by unfold InR; omega) (by unfold InR; omega) (fun c7 => ?_) (fun c7 => ?_)
      · exact absurd c7 (by omega)
      · refine wp_aload_n dX11_wasSo_10 rfl ?_
        refine wp_aload_n dX11_wasSo_11 rfl ?_
        refine wp_getC dX11_wasSo_12 flX11_74 rfl rfl ?_
        refine wp_iload_n dX11_wasSo_15 rfl ?_
        obtain ⟨q, hq⟩ : ∃ q, R[i]? = some q := ⟨_, List.getElem?_eq_getElem (by omega)⟩
        obtain ⟨⟨q1, q2⟩, q3, q4⟩ := r.2.2 i q hq
        refine wp_iald (n := 20) dX11_wasSo_16 rfl (by omega) (by omega) ?_
        rw [show ((i : Int)).toNat = i by omega, q1]
        refine wp_callVp dX11_wasSo_17 mlX11_310 mvX11_gapOf (S_X11_gapOf (p := q.1) g (by rw [← hP]; exact q3)) rfl rfl (by decide) (by decide) rfl rfl rfl (Nat.le_of_ble_eq_true rfl) ?_
        refine wp_callSp dX11_wasSo_20 mlX11_355 msJ6_signum_0f7a4 (S_J6_signum_0f7a4 (by have := gap_b2 g q.1; unfold InR; omega)) rfl rfl (by decide) (by decide) (Nat.le_of_ble_eq_true rfl) ?_
        rw [← hγ]
        have sb := sgn_b (γ q.1)
        refine wp_aload_n dX11_wasSo_23 rfl ?_
        refine wp_getC dX11_wasSo_24 flX11_77 rfl rfl ?_
        refine wp_iload_n dX11_wasSo_27 rfl ?_
        refine wp_iald (n := 20) dX11_wasSo_28 rfl (by omega) (by omega) ?_
        rw [show ((i : Int)).toNat = i by omega, q2]
        refine wp_icmpeq 34 dX11_wasSo_29 (by decide) (by unfold InR; omega) (by unfold InR; omega) (fun c29 => ?_) (fun c29 => ?_)
        · refine wp_iinc dX11_wasSo_34 rfl (by decide) ?_
          refine wp_goto 2 dX11_wasSo_37 (by decide) ?_
          refine wp_loc [(0, .ref (adr X 47)), (1, .int (iI ((i + 1 : Nat) : Int)))] ⟨rfl, rfl, trivial⟩ ?_
          exact ih (i + 1) (by omega) (by rw [List.take_add_one, hq, List.all_append, ha]; show (true && (soG γ q && true)) = true; unfold soG; rw [decide_eq_true c29]; rfl)
        · refine wp_iconst dX11_wasSo_32 ?_
          exact wp_zret dX11_wasSo_33 rfl (by omega) (⟨vb0 (fun z => by rw [List.all_eq_true] at z; have := z q (List.mem_of_getElem? hq); unfold soG at this; rw [decide_eq_true_iff] at this; exact c29 this), rfl⟩)
  refine wp_iconst dX11_wasSo_0 ?_
  refine wp_istore_n dX11_wasSo_1 (by decide) ?_
  refine wp_loc [(0, .ref (adr X 47)), (1, .int (iI ((0 : Nat) : Int)))] ⟨rfl, rfl, trivial⟩ ?_
  exact L R.length 0 (by omega) rfl

theorem iOr_0 (b : Int) : iI (iOr b 0) = iI b := by
  unfold iOr
  rw [iI_of]
  show iI b ||| 0 = iI b
  apply Int32.toBitVec_inj.mp
  rw [Int32.toBitVec_or]
  simp

set_option maxRecDepth 20000 in
theorem S_X11_angles {X : Cx} {h : Hp} {σ : Sg} (am : AM h σ) (o : SOK σ)  : Spec X mX11_angles 60 [.ref (adr X 47)] h (fun rv h' => rv = some (.int (iI (qAngles σ))) ∧ AM h' σ ∧ sameC h h') := by
  refine spec_wp (Nat.le_of_ble_eq_true rfl) (by decide +kernel) ?_
  refine wp_loc [(0, .ref (adr X 47))] ⟨rfl, trivial⟩ ?_
  refine wp_aload_n dX11_angles_0 rfl ?_
  refine wp_iconst dX11_angles_1 ?_
  refine wp_putI dX11_angles_2 plX11_95 rfl rfl ?_
  have k0 : KM h (sI h 47 0 0) := KM.sI (by unfold SMx; omega)
  have am := am.km k0
  generalize sI h 47 0 0 = h0 at *
  have gk := o.2.2.2.1
  have gb := gk.b
  have gkb := gk.2.1
  have e4 : hI h0 47 24 = gP (sG σ) := am.2.2.2.2.1.1
  have e5 : hI h0 47 26 = gA (sG σ) := am.2.2.2.2.1.2.1
  have e6 : hI h0 47 27 = gK (sG σ) := am.2.2.2.2.1.2.2.1
  have em : GM h0 = gE (sG σ) := am.gm
  have ep : gP (GM h0) = gP (sG σ) := e4
  obtain ⟨V, hV0⟩ : ∃ V : Int, V = qAngles σ := ⟨_, rfl⟩
  rw [← hV0]
  unfold qAngles at hV0
  have g0 := gk.1
  refine wp_aload_n dX11_angles_5 rfl ?_
  refine wp_getI dX11_angles_6 flX11_272 rfl rfl ?_
  refine wp_ifne 14 dX11_angles_9 (by decide) (by first | assumption | (unfold InR; omega)) (fun c9 => ?_) (fun c9 => ?_)
  · refine wp_aload_n dX11_angles_14 rfl ?_
    refine wp_getI dX11_angles_15 flX11_278 rfl rfl ?_
    refine wp_istore_n dX11_angles_18 (by decide) ?_
    refine wp_iconst dX11_angles_19 ?_
    refine wp_istore_n dX11_angles_20 (by decide) ?_
    refine wp_iconst dX11_angles_21 ?_
    refine wp_istore_n dX11_angles_22 (by decide) ?_
    have L : ∀ (n : Nat) (A b : Int) (h1 : Hp), (A + n = gP (sG σ) / 2 ∧ 1 ≤ A) → (Kp SAn h0 h1) → (V = anF (sG σ) (sR_ σ) n A b) → WP X mX11_angles 60 23 [(0, .ref (adr X 47)), (1, .int (iI (hI h0 47 26))), (2, .int (iI b)), (3, .int (iI A))] [] h1 (fun rv h' => rv = some (.int (iI V)) ∧ AM h' σ ∧ sameC h h') := by
      intro n
      induction n with
      | zero =>
        intro A b h1 hn kp hV
        have e24 : hI h1 47 24 = gP (sG σ) := by rw [kp.1 47 24 (by unfold SAn SST; omega)]; exact e4
        refine wp_iconst dX11_angles_23 ?_
        refine wp_iload_n dX11_angles_24 rfl ?_
        refine wp_imul dX11_angles_25 ?_
        refine wp_aload_n dX11_angles_26 rfl ?_
        refine wp_getI dX11_angles_27 flX11_272 rfl rfl ?_
        rw [e24]
        refine wp_icmpge 61 dX11_angles_30 (by decide) (by first | assumption | (unfold InR; omega)) (by first | assumption | (unfold InR; omega)) (fun c30 => ?_) (fun c30 => ?_)
        · refine wp_aload_n dX11_angles_61 rfl ?_
          refine wp_iload_n dX11_angles_62 rfl ?_
          refine wp_putI dX11_angles_63 plX11_278 rfl rfl ?_
          refine wp_iload_n dX11_angles_66 rfl ?_
          exact wp_iret dX11_angles_67 rfl (by
      have k9 := SAn.back kp
      have hV : V = b := hV
      exact ⟨vi hV.symm, am.km k9, (k0.tr k9).C⟩)
        · exact absurd c30 (by omega)
      | succ n ih =>
        intro A b h1 hn kp hV
        have e24 : hI h1 47 24 = gP (sG σ) := by rw [kp.1 47 24 (by unfold SAn SST; omega)]; exact e4
        refine wp_iconst dX11_angles_23 ?_
        refine wp_iload_n dX11_angles_24 rfl ?_
        refine wp_imul dX11_angles_25 ?_
        refine wp_aload_n dX11_angles_26 rfl ?_
        refine wp_getI dX11_angles_27 flX11_272 rfl rfl ?_
        rw [e24]
        refine wp_icmpge 61 dX11_angles_30 (by decide) (by first | assumption | (unfold InR; omega)) (by first | assumption | (unfold InR; omega)) (fun c30 => ?_) (fun c30 => ?_)
        · exact absurd c30 (by omega)
        · refine wp_aload_n dX11_angles_33 rfl ?_
          refine wp_iload_n dX11_angles_34 rfl ?_
          refine wp_putI dX11_angles_35 plX11_278 rfl rfl ?_
          have kp3 : Kp SAn h0 (sI h1 47 26 A) := kp.tr (Kp.sI (Or.inr ⟨rfl, rfl⟩))
          rw [anF] at hV
          refine wp_iload_n dX11_angles_38 rfl ?_
          refine wp_aload_n dX11_angles_39 rfl ?_
          refine wp_callVp dX11_angles_40 mlX11_360 mvX11_wasSo (S_X11_wasSo (γ := gapA (sG σ) A) (P := gP (sG σ)) (R := sR_ σ) (by rw [GM_an am kp A]; exact gEA_b gk (by omega) (by omega)) (by rw [GM_an am kp A]; rfl) (by rw [GM_an am kp A]; rfl) ((am.rk o).kp (kp3.1 47 42 (by unfold SAn SST; omega)) (fun i => kp3.1 63 i (by unfold SAn SST; omega)) (fun i => kp3.1 64 i (by unfold SAn SST; omega)))) rfl rfl (by decide) (by decide) rfl rfl rfl (Nat.le_of_ble_eq_true rfl) ?_
          refine wp_ifeqb 52 dX11_angles_43 (by decide) (fun c43 => ?_) (fun c43 => ?_)
          · refine wp_iconst dX11_angles_52 ?_
            refine wp_ior dX11_angles_53 ?_
            have c43 : ¬ (sR_ σ).all (soB (sG σ) A) = true := c43
            rw [if_neg c43] at hV
            rw [show iI (iOr b 0) = iI b from iOr_0 b]
            refine wp_istore_n dX11_angles_54 (by decide) ?_
            refine wp_iinc dX11_angles_55 rfl (by decide) ?_
            refine wp_goto 23 dX11_angles_58 (by decide) ?_
            refine wp_loc [(0, .ref (adr X 47)), (1, .int (iI (hI h0 47 26))), (2, .int (iI b)), (3, .int (iI (A + 1)))] ⟨rfl, rfl, rfl, rfl, trivial⟩ ?_
            exact ih (A + 1) b _ (by omega) kp3 hV
          · refine wp_iconst dX11_angles_46 ?_
            refine wp_iload_n dX11_angles_47 rfl ?_
            refine wp_ishl dX11_angles_48 ?_
            refine wp_goto 53 dX11_angles_49 (by decide) ?_
            refine wp_ior dX11_angles_53 ?_
            have c43 : (sR_ σ).all (soB (sG σ) A) = true := c43
            rw [if_pos c43] at hV
            refine wp_istore_n dX11_angles_54 (by decide) ?_
            refine wp_iinc dX11_angles_55 rfl (by decide) ?_
            refine wp_goto 23 dX11_angles_58 (by decide) ?_
            refine wp_loc [(0, .ref (adr X 47)), (1, .int (iI (hI h0 47 26))), (2, .int (iI (iOr b (iShl 1 A)))), (3, .int (iI (A + 1)))] ⟨rfl, rfl, rfl, rfl, trivial⟩ ?_
            exact ih (A + 1) _ _ (by omega) kp3 hV
    refine wp_loc [(0, .ref (adr X 47)), (1, .int (iI (hI h0 47 26))), (2, .int (iI 0)), (3, .int (iI 1))] ⟨rfl, rfl, rfl, rfl, trivial⟩ ?_
    exact L (gP (sG σ) / 2 - 1).toNat 1 0 h0 (by omega) (Kp.rf h0) (by rw [hV0, if_neg (by omega)])
  · refine wp_iconst dX11_angles_12 ?_
    exact wp_iret dX11_angles_13 rfl (⟨vi (by rw [hV0, if_pos (by omega)]), am, k0.C⟩)

