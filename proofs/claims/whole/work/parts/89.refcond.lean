/-! the reference: comparisons, UNIT, parts, CONDITION -/
def PMb (h : Hp) (ρ : Int → Int) (V : PVr) (rv : Option Value) (h' : Hp) : Prop := (∃ z, rv = some (.int (iI z)) ∧ (z = 0 ∨ z = 1) ∧ ∀ k v, V = .inr (k, v) → z = v ρ) ∧ (∀ e, V = .inl e → hI h' 47 11 = e) ∧ (∀ k v, V = .inr (k, v) → hI h' 47 11 = -1 ∧ hI h' 47 10 = k ∧ hI h' 47 12 = hI h 47 12) ∧ Kp SP h h'
def cmV (t : List Int) (e : Nat) (f : Option Vl) (i : Nat) : PVr := match f with
  | some u => pv (cmF t (smP t e) i [] u)
  | none => pv (prB (smP t e i) (cmF t (smP t e)))
def pcV (t : List Int) (e : Nat) (u : Vl) (k : Nat) : PVr := if lk t k = 61 ∨ lk t k = 60 ∨ lk t k = 62 then pvB (pv (smP t e (sk t k + 1))) (fun k2 v2 => .inr (k2, fun ρ => jn (lk t k) (u ρ) (v2 ρ))) else .inl (sk t k)
theorem pv_cm (t : List Int) (e k : Nat) (c : List Int) (u : Vl) : pv (cmF t (smP t e) k c u) = pcV t e u k := by
  unfold cmF pcV
  split
  · cases smP t e (sk t k + 1) <;> rfl
  · rfl
theorem cmV_n (t : List Int) (e i : Nat) : cmV t e none i = pvB (pv (smP t e i)) (fun k u => pcV t e u k) := by
  show pv (prB (smP t e i) (cmF t (smP t e))) = _
  cases smP t e i with
  | inl e => rfl
  | inr z => obtain ⟨k, c, v⟩ := z; exact pv_cm t e k c v
def CmM (X : Cx) (e : Nat) : Prop := ∀ (h : Hp) (t : List Int) (b B i : Nat) (ρ : Int → Int) (f : Option Vl) (z0 : Int), PLm h t b B i (6 - e) ρ → InR z0 → (∀ u, f = some u → z0 = u ρ) → Spec X mX11_compares (3 * e + 9) [.ref (adr X 47), .int (iI (b2i (f.isSome = true))), .int (iI z0)] h (PMb h ρ (cmV t e f i))
def UnM (X : Cx) (e : Nat) : Prop := ∀ (h : Hp) (t : List Int) (b B i : Nat) (ρ : Int → Int), PLm h t b B i (6 - e) ρ → Spec X mX11_unit (3 * e + 10) [.ref (adr X 47)] h (PMb h ρ (pv (unP t e none i)))
def PtM (X : Cx) (e : Nat) : Prop := ∀ (h : Hp) (t : List Int) (b B i : Nat) (ρ : Int → Int) (f : Option Vl) (z0 : Int), PLm h t b B i (6 - e) ρ → InR z0 → (∀ u, f = some u → z0 = u ρ) → Spec X mX11_part (3 * e + 11) [.ref (adr X 47), .int (iI (b2i (f.isSome = true))), .int (iI z0)] h (PMb h ρ (pv (trP t e f i)))
def CdM (X : Cx) (e : Nat) : Prop := ∀ (h : Hp) (t : List Int) (b B i : Nat) (ρ : Int → Int) (f : Option Vl) (z0 : Int), PLm h t b B i (6 - e) ρ → InR z0 → (∀ u, f = some u → z0 = u ρ) → Spec X mX11_condition (3 * e + 12) [.ref (adr X 47), .int (iI (b2i (f.isSome = true))), .int (iI z0)] h (PMb h ρ (pv (cdP t e f i)))

set_option maxRecDepth 20000 in
theorem S_X11_compares {X : Cx} {e : Nat} (he6 : e ≤ 6) (hS : SmM X e) : CmM X e := by
  intro h t b B i ρ f z0 hp hz0 hfz
  obtain ⟨tx, tk, hi, hl, hf, hd, hlt⟩ := hp
  have hp : PLm h t b B i (6 - e) ρ := ⟨tx, tk, hi, hl, hf, hd, hlt⟩
  have t160 := tk.1
  have lb := lk_b tk hl
  have sb := sk_b t hl
  obtain ⟨V, hV⟩ : ∃ V, V = cmV t e f i := ⟨_, rfl⟩
  rw [← hV]
  refine spec_wp (Nat.le_of_ble_eq_true rfl) (by decide +kernel) ?_
  refine wp_loc [(0, .ref (adr X 47)), (1, .int (iI (b2i (f.isSome = true)))), (2, .int (iI z0))] ⟨rfl, rfl, rfl, trivial⟩ ?_
  have K23 : ∀ (h1 : Hp) (k : Nat) (u : Vl) (z : Int), TXm h1 t b B → k ≤ t.length → hI h1 47 10 = k → hI h1 47 11 = -1 → hI h1 47 12 = hI h 47 12 → LTm h1 ρ → Kp SP h h1 → InR z → z = u ρ → V = pcV t e u k → WP X mX11_compares (3 * e + 9) 23 [(0, .ref (adr X 47)), (3, .int (iI z))] [] h1 (PMb h ρ V) := by
    intro h1 k u z tx1 hk hk1 hf1 hd1 hl1 kp1 hz hzu hV
    have lb1 := lk_b tk hk
    have sk1 := sk_b t hk
    unfold pcV at hV
    refine wp_aload_n dX11_compares_23 rfl ?_
    refine wp_callV dX11_compares_24 mlX11_141 mvX11_look (S_X11_look (i := k) tx1 tk hk1 hk) rfl rfl (by omega) (by decide) rfl rfl rfl (Nat.le_of_ble_eq_true rfl) ?_
    rintro rv h8 ⟨rfl, rfl⟩
    refine wp_istore dX11_compares_27 (by decide) ?_
    refine wp_iload dX11_compares_29 rfl ?_
    refine wp_callSp dX11_compares_31 mlX11_183 msX11_isSign (S_X11_isSign (by unfold InR; omega)) rfl rfl (by omega) (by decide) (Nat.le_of_ble_eq_true rfl) ?_
    refine wp_ifneb 42 dX11_compares_34 (by decide) (fun c34 => ?_) (fun c34 => ?_)
    · rw [if_pos c34] at hV
      have lin := lk_in tk hk (by omega : lk t k ≠ -1)
      refine wp_aload_n dX11_compares_42 rfl ?_
      refine wp_dup dX11_compares_43 rfl ?_
      refine wp_getI dX11_compares_44 flX11_122 rfl rfl ?_
      rw [hI_same]
      refine wp_iconst dX11_compares_47 ?_
      refine wp_iadd dX11_compares_48 ?_
      refine wp_putI dX11_compares_49 plX11_122 rfl rfl ?_
      rw [sI_sI, show ((sk t k : Nat) : Int) + 1 = ((sk t k + 1 : Nat) : Int) by omega]
      refine wp_aload_n dX11_compares_52 rfl ?_
      refine wp_callV dX11_compares_53 mlX11_163 mvX11_sum (hS (sI h1 47 10 ((sk t k + 1 : Nat) : Int)) t b B (sk t k + 1) ρ ⟨tx1.kp kp10, tk, hI_same, by omega, by rw [hI_10 (by decide)]; exact hf1, by rw [hI_10 (by decide), hd1]; exact hd, hl1.kp kp10⟩) rfl rfl (by omega) (by decide) rfl rfl rfl (Nat.le_of_ble_eq_true rfl) ?_
      rintro rv h2 ⟨⟨z2, rfl, hz2, hzv⟩, he2, hr2, kp2a⟩
      have kp2 := (kp1.tr kp10).tr kp2a
      have ppS := smP_pp tk e (sk t k + 1) (by omega)
      rcases pv_cs (pv (smP t e (sk t k + 1))) with ⟨e2, hw⟩ | ⟨k2, v2, hw⟩
      · have he2 := he2 e2 hw
        have eb := pvE ppS hw
        rw [hw] at hV
        have hV : V = .inl e2 := hV
        subst hV
        refine wp_istore dX11_compares_56 (by decide) ?_
        refine wp_loc [(0, .ref (adr X 47)), (3, .int (iI z)), (4, .int (iI (lk t k))), (5, .int (iI z2))] ⟨rfl, rfl, rfl, rfl, trivial⟩ ?_
        refine wp_iload dX11_compares_58 rfl ?_
        refine wp_bipush dX11_compares_60 rfl ?_
        refine wp_icmpne 79 dX11_compares_62 (by decide) (by first | assumption | (unfold InR; omega)) (by first | assumption | (unfold InR; omega)) (fun c62 => ?_) (fun c62 => ?_)
        · refine wp_iload dX11_compares_79 rfl ?_
          refine wp_bipush dX11_compares_81 rfl ?_
          refine wp_icmpne 100 dX11_compares_83 (by decide) (by first | assumption | (unfold InR; omega)) (by first | assumption | (unfold InR; omega)) (fun c83 => ?_) (fun c83 => ?_)
          · refine wp_iload_n dX11_compares_100 rfl ?_
            refine wp_iload dX11_compares_101 rfl ?_
            refine wp_icmple 110 dX11_compares_103 (by decide) (by first | assumption | (unfold InR; omega)) (by first | assumption | (unfold InR; omega)) (fun c103 => ?_) (fun c103 => ?_)
            · refine wp_iconst dX11_compares_110 ?_
              exact wp_zret dX11_compares_111 rfl (by omega) (⟨⟨_, rfl, by omega, fun k9 v9 e9 => (by cases e9)⟩, fun e9 q9 => (by cases q9; exact he2), fun k9 v9 e9 => (by cases e9), kp2⟩)
            · refine wp_iconst dX11_compares_106 ?_
              refine wp_goto 111 dX11_compares_107 (by decide) ?_
              exact wp_zret dX11_compares_111 rfl (by omega) (⟨⟨_, rfl, by omega, fun k9 v9 e9 => (by cases e9)⟩, fun e9 q9 => (by cases q9; exact he2), fun k9 v9 e9 => (by cases e9), kp2⟩)
          · refine wp_iload_n dX11_compares_86 rfl ?_
            refine wp_iload dX11_compares_87 rfl ?_
            refine wp_icmpge 96 dX11_compares_89 (by decide) (by first | assumption | (unfold InR; omega)) (by first | assumption | (unfold InR; omega)) (fun c89 => ?_) (fun c89 => ?_)
            · refine wp_iconst dX11_compares_96 ?_
              refine wp_goto 111 dX11_compares_97 (by decide) ?_
              exact wp_zret dX11_compares_111 rfl (by omega) (⟨⟨_, rfl, by omega, fun k9 v9 e9 => (by cases e9)⟩, fun e9 q9 => (by cases q9; exact he2), fun k9 v9 e9 => (by cases e9), kp2⟩)
            · refine wp_iconst dX11_compares_92 ?_
              refine wp_goto 111 dX11_compares_93 (by decide) ?_
              exact wp_zret dX11_compares_111 rfl (by omega) (⟨⟨_, rfl, by omega, fun k9 v9 e9 => (by cases e9)⟩, fun e9 q9 => (by cases q9; exact he2), fun k9 v9 e9 => (by cases e9), kp2⟩)
        · refine wp_iload_n dX11_compares_65 rfl ?_
          refine wp_iload dX11_compares_66 rfl ?_
          refine wp_icmpne 75 dX11_compares_68 (by decide) (by first | assumption | (unfold InR; omega)) (by first | assumption | (unfold InR; omega)) (fun c68 => ?_) (fun c68 => ?_)
          · refine wp_iconst dX11_compares_75 ?_
            refine wp_goto 111 dX11_compares_76 (by decide) ?_
            exact wp_zret dX11_compares_111 rfl (by omega) (⟨⟨_, rfl, by omega, fun k9 v9 e9 => (by cases e9)⟩, fun e9 q9 => (by cases q9; exact he2), fun k9 v9 e9 => (by cases e9), kp2⟩)
          · refine wp_iconst dX11_compares_71 ?_
            refine wp_goto 111 dX11_compares_72 (by decide) ?_
            exact wp_zret dX11_compares_111 rfl (by omega) (⟨⟨_, rfl, by omega, fun k9 v9 e9 => (by cases e9)⟩, fun e9 q9 => (by cases q9; exact he2), fun k9 v9 e9 => (by cases e9), kp2⟩)
      · have hr2 := hr2 k2 v2 hw
        rw [hw] at hV
        have hV : V = .inr (k2, fun ρ => jn (lk t k) (u ρ) (v2 ρ)) := hV
        subst hV
        refine wp_istore dX11_compares_56 (by decide) ?_
        refine wp_loc [(0, .ref (adr X 47)), (3, .int (iI z)), (4, .int (iI (lk t k))), (5, .int (iI z2))] ⟨rfl, rfl, rfl, rfl, trivial⟩ ?_
        refine wp_iload dX11_compares_58 rfl ?_
        refine wp_bipush dX11_compares_60 rfl ?_
        refine wp_icmpne 79 dX11_compares_62 (by decide) (by first | assumption | (unfold InR; omega)) (by first | assumption | (unfold InR; omega)) (fun c62 => ?_) (fun c62 => ?_)
        · refine wp_iload dX11_compares_79 rfl ?_
          refine wp_bipush dX11_compares_81 rfl ?_
          refine wp_icmpne 100 dX11_compares_83 (by decide) (by first | assumption | (unfold InR; omega)) (by first | assumption | (unfold InR; omega)) (fun c83 => ?_) (fun c83 => ?_)
          · refine wp_iload_n dX11_compares_100 rfl ?_
            refine wp_iload dX11_compares_101 rfl ?_
            refine wp_icmple 110 dX11_compares_103 (by decide) (by first | assumption | (unfold InR; omega)) (by first | assumption | (unfold InR; omega)) (fun c103 => ?_) (fun c103 => ?_)
            · refine wp_iconst dX11_compares_110 ?_
              exact wp_zret dX11_compares_111 rfl (by omega) (⟨⟨0, rfl, by omega, fun k9 v9 e9 => (by cases e9; show (0 : Int) = jn (lk t k) (u ρ) (v2 ρ); rw [← hzu, ← hzv k2 v2 hw, show lk t k = 62 by omega]; show _ = if z2 < z then (1 : Int) else 0; rw [if_neg (by omega)])⟩, fun e9 q9 => (by cases q9), fun k9 v9 e9 => (by cases e9; exact ⟨hr2.1, hr2.2.1, by rw [hr2.2.2, hI_10 (by decide), hd1]⟩), kp2⟩)
            · refine wp_iconst dX11_compares_106 ?_
              refine wp_goto 111 dX11_compares_107 (by decide) ?_
              exact wp_zret dX11_compares_111 rfl (by omega) (⟨⟨1, rfl, by omega, fun k9 v9 e9 => (by cases e9; show (1 : Int) = jn (lk t k) (u ρ) (v2 ρ); rw [← hzu, ← hzv k2 v2 hw, show lk t k = 62 by omega]; show _ = if z2 < z then (1 : Int) else 0; rw [if_pos (by omega)])⟩, fun e9 q9 => (by cases q9), fun k9 v9 e9 => (by cases e9; exact ⟨hr2.1, hr2.2.1, by rw [hr2.2.2, hI_10 (by decide), hd1]⟩), kp2⟩)
          · refine wp_iload_n dX11_compares_86 rfl ?_
            refine wp_iload dX11_compares_87 rfl ?_
            refine wp_icmpge 96 dX11_compares_89 (by decide) (by first | assumption | (unfold InR; omega)) (by first | assumption | (unfold InR; omega)) (fun c89 => ?_) (fun c89 => ?_)
            · refine wp_iconst dX11_compares_96 ?_
              refine wp_goto 111 dX11_compares_97 (by decide) ?_
              exact wp_zret dX11_compares_111 rfl (by omega) (⟨⟨0, rfl, by omega, fun k9 v9 e9 => (by cases e9; show (0 : Int) = jn (lk t k) (u ρ) (v2 ρ); rw [← hzu, ← hzv k2 v2 hw, show lk t k = 60 by omega]; show _ = if z < z2 then (1 : Int) else 0; rw [if_neg (by omega)])⟩, fun e9 q9 => (by cases q9), fun k9 v9 e9 => (by cases e9; exact ⟨hr2.1, hr2.2.1, by rw [hr2.2.2, hI_10 (by decide), hd1]⟩), kp2⟩)
            · refine wp_iconst dX11_compares_92 ?_
              refine wp_goto 111 dX11_compares_93 (by decide) ?_
              exact wp_zret dX11_compares_111 rfl (by omega) (⟨⟨1, rfl, by omega, fun k9 v9 e9 => (by cases e9; show (1 : Int) = jn (lk t k) (u ρ) (v2 ρ); rw [← hzu, ← hzv k2 v2 hw, show lk t k = 60 by omega]; show _ = if z < z2 then (1 : Int) else 0; rw [if_pos (by omega)])⟩, fun e9 q9 => (by cases q9), fun k9 v9 e9 => (by cases e9; exact ⟨hr2.1, hr2.2.1, by rw [hr2.2.2, hI_10 (by decide), hd1]⟩), kp2⟩)
        · refine wp_iload_n dX11_compares_65 rfl ?_
          refine wp_iload dX11_compares_66 rfl ?_
          refine wp_icmpne 75 dX11_compares_68 (by decide) (by first | assumption | (unfold InR; omega)) (by first | assumption | (unfold InR; omega)) (fun c68 => ?_) (fun c68 => ?_)
          · refine wp_iconst dX11_compares_75 ?_
            refine wp_goto 111 dX11_compares_76 (by decide) ?_
            exact wp_zret dX11_compares_111 rfl (by omega) (⟨⟨0, rfl, by omega, fun k9 v9 e9 => (by cases e9; show (0 : Int) = jn (lk t k) (u ρ) (v2 ρ); rw [← hzu, ← hzv k2 v2 hw, show lk t k = 61 by omega]; show _ = if z = z2 then (1 : Int) else 0; rw [if_neg (by omega)])⟩, fun e9 q9 => (by cases q9), fun k9 v9 e9 => (by cases e9; exact ⟨hr2.1, hr2.2.1, by rw [hr2.2.2, hI_10 (by decide), hd1]⟩), kp2⟩)
          · refine wp_iconst dX11_compares_71 ?_
            refine wp_goto 111 dX11_compares_72 (by decide) ?_
            exact wp_zret dX11_compares_111 rfl (by omega) (⟨⟨1, rfl, by omega, fun k9 v9 e9 => (by cases e9; show (1 : Int) = jn (lk t k) (u ρ) (v2 ρ); rw [← hzu, ← hzv k2 v2 hw, show lk t k = 61 by omega]; show _ = if z = z2 then (1 : Int) else 0; rw [if_pos (by omega)])⟩, fun e9 q9 => (by cases q9), fun k9 v9 e9 => (by cases e9; exact ⟨hr2.1, hr2.2.1, by rw [hr2.2.2, hI_10 (by decide), hd1]⟩), kp2⟩)
    · refine wp_aload_n dX11_compares_37 rfl ?_
      refine wp_callV dX11_compares_38 mlX11_137 mvX11_fails (S_X11_fails (by rw [hI_10 (by decide)]; exact hf1)) rfl rfl (by omega) (by decide) rfl rfl rfl (Nat.le_of_ble_eq_true rfl) ?_
      rintro rv h2 ⟨rfl, rfl⟩
      rw [hI_same]
      exact wp_zret dX11_compares_41 rfl (by omega) (by
    rw [if_neg c34] at hV
    subst hV
    exact ⟨⟨0, rfl, by omega, fun k9 v9 e9 => (by cases e9)⟩, fun e9 q9 => (by cases q9; exact hI_same), fun k9 v9 e9 => (by cases e9), (kp1.tr kp10).tr kp11⟩)
  refine wp_iload_n dX11_compares_0 rfl ?_
  refine wp_ifeqb 8 dX11_compares_1 (by decide) (fun c1 => ?_) (fun c1 => ?_)
  · refine wp_aload_n dX11_compares_8 rfl ?_
    refine wp_callV dX11_compares_9 mlX11_163 mvX11_sum (hS h t b B i ρ hp) rfl rfl (by omega) (by decide) rfl rfl rfl (Nat.le_of_ble_eq_true rfl) ?_
    rintro rv h1 ⟨⟨z, rfl, hz, hzv⟩, he1, hr1, kp1⟩
    have ppS := smP_pp tk e i hl
    have fn : f = none := by cases f with
      | none => rfl
      | some u => exact absurd rfl c1
    rw [fn, cmV_n] at hV
    rcases pv_cs (pv (smP t e i)) with ⟨e2, hw⟩ | ⟨k2, v2, hw⟩
    · have he1 := he1 e2 hw
      have eb := pvE ppS hw
      rw [hw] at hV
      have hV : V = .inl e2 := hV
      subst hV
      refine wp_istore_n dX11_compares_12 (by decide) ?_
      refine wp_aload_n dX11_compares_13 rfl ?_
      refine wp_getI dX11_compares_14 flX11_131 rfl rfl ?_
      rw [he1]
      refine wp_iconst dX11_compares_17 ?_
      refine wp_icmpeq 23 dX11_compares_18 (by decide) (by unfold InR; omega) (by unfold InR; omega) (fun c18 => ?_) (fun c18 => ?_)
      · exact absurd c18 (by omega)
      · refine wp_iconst dX11_compares_21 ?_
        exact wp_zret dX11_compares_22 rfl (by omega) (⟨⟨0, rfl, by omega, fun k9 v9 e9 => (by cases e9)⟩, fun e9 q9 => (by cases q9; exact he1), fun k9 v9 e9 => (by cases e9), kp1⟩)
    · have hr1 := hr1 k2 v2 hw
      have eb := pvP ppS hw
      rw [hw] at hV
      refine wp_istore_n dX11_compares_12 (by decide) ?_
      refine wp_aload_n dX11_compares_13 rfl ?_
      refine wp_getI dX11_compares_14 flX11_131 rfl rfl ?_
      rw [hr1.1]
      refine wp_iconst dX11_compares_17 ?_
      refine wp_icmpeq 23 dX11_compares_18 (by decide) (by unfold InR; omega) (by unfold InR; omega) (fun c18 => ?_) (fun c18 => ?_)
      · refine wp_loc [(0, .ref (adr X 47)), (3, .int (iI z))] ⟨rfl, rfl, trivial⟩ ?_
        exact K23 h1 k2 v2 z (tx.kp kp1) eb.2 hr1.2.1 hr1.1 hr1.2.2 (hlt.kp kp1) kp1 hz (hzv k2 v2 hw) hV
      · exact absurd rfl c18
  · obtain ⟨u, rfl⟩ : ∃ u, f = some u := Option.isSome_iff_exists.mp c1
    have hzu := hfz u rfl
    have hV : V = pcV t e u i := by rw [hV]; exact pv_cm t e i [] u
    refine wp_iload_n dX11_compares_4 rfl ?_
    refine wp_goto 12 dX11_compares_5 (by decide) ?_
    refine wp_istore_n dX11_compares_12 (by decide) ?_
    refine wp_aload_n dX11_compares_13 rfl ?_
    refine wp_getI dX11_compares_14 flX11_131 rfl rfl ?_
    rw [hf]
    refine wp_iconst dX11_compares_17 ?_
    refine wp_icmpeq 23 dX11_compares_18 (by decide) (by unfold InR; omega) (by unfold InR; omega) (fun c18 => ?_) (fun c18 => ?_)
    · refine wp_loc [(0, .ref (adr X 47)), (3, .int (iI z0))] ⟨rfl, rfl, trivial⟩ ?_
      exact K23 h i u z0 tx hl hi hf rfl hlt (Kp.rf h) hz0 hzu hV
    · exact absurd rfl c18

theorem pvq_l {r : PR} {e : Nat} (h : pv r = .inl e) : pv (prB r (fun k c v => .inr (k, c ++ [-33], ntV v))) = .inl e := by
  cases r with
  | inl e2 => cases h; rfl
  | inr z => obtain ⟨k2, c, v2⟩ := z; cases h
theorem pvq_y {r : PR} {k : Nat} {v : Vl} (h : pv r = .inr (k, v)) : pv (prB r (fun k c v => .inr (k, c ++ [-33], ntV v))) = .inr (k, ntV v) := by
  cases r with
  | inl e2 => cases h
  | inr z => obtain ⟨k2, c, v2⟩ := z; cases h; rfl

set_option maxRecDepth 20000 in
theorem S_X11_unit0 {X : Cx} {e : Nat} (he6 : e ≤ 6) (hM : CmM X e) (hU : ∀ e1, e = e1 + 1 → UnM X e1) (hC : ∀ e1, e = e1 + 1 → CdM X e1) : UnM X e := by
  intro h t b B i ρ hp
  obtain ⟨tx, tk, hi, hl, hf, hd, hlt⟩ := hp
  have hp : PLm h t b B i (6 - e) ρ := ⟨tx, tk, hi, hl, hf, hd, hlt⟩
  have t160 := tk.1
  have lb := lk_b tk hl
  have sb := sk_b t hl
  obtain ⟨V, hV⟩ : ∃ V, V = pv (unP t e none i) := ⟨_, rfl⟩
  rw [← hV]
  refine spec_wp (Nat.le_of_ble_eq_true rfl) (by decide +kernel) ?_
  refine wp_loc [(0, .ref (adr X 47))] ⟨rfl, trivial⟩ ?_
  refine wp_aload_n dX11_unit_0 rfl ?_
  refine wp_callV dX11_unit_1 mlX11_141 mvX11_look (S_X11_look tx tk hi hl) rfl rfl (by omega) (by decide) rfl rfl rfl (Nat.le_of_ble_eq_true rfl) ?_
  rintro rv h1 ⟨rfl, rfl⟩
  refine wp_istore_n dX11_unit_4 (by decide) ?_
  refine wp_iload_n dX11_unit_5 rfl ?_
  refine wp_bipush dX11_unit_6 rfl ?_
  refine wp_icmpne 45 dX11_unit_8 (by decide) (by unfold InR; omega) (by unfold InR; omega) (fun c8 => ?_) (fun c8 => ?_)
  · refine wp_iload_n dX11_unit_45 rfl ?_
    refine wp_bipush dX11_unit_46 rfl ?_
    refine wp_icmpne 90 dX11_unit_48 (by decide) (by unfold InR; omega) (by unfold InR; omega) (fun c48 => ?_) (fun c48 => ?_)
    · refine wp_aload_n dX11_unit_90 rfl ?_
      refine wp_iconst dX11_unit_91 ?_
      refine wp_iconst dX11_unit_92 ?_
      refine wp_callV dX11_unit_93 mlX11_193 mvX11_compares (hM (sI h 47 10 ((sk t i : Nat) : Int)) t b B (sk t i) ρ none 0 (hp.at sb.2) inR_0 (fun u q => by cases q)) rfl rfl (by omega) (by decide) rfl rfl rfl (Nat.le_of_ble_eq_true rfl) ?_
      rintro rv h2 ⟨⟨z, rfl, hz01, hzv⟩, he2, hr2, kp2a⟩
      exact wp_zret dX11_unit_96 rfl hz01 (by
  have hV : V = cmV t e none (sk t i) := by rw [hV, unP_eq, unF_n c8 c48]; show _ = pv (prB (smP t e (sk t i)) (cmF t (smP t e))); rw [smP_sk t e hl]
  rw [← hV] at hzv he2 hr2
  exact ⟨⟨z, rfl, hz01, hzv⟩, he2, fun k9 v9 e9 => (by have q := hr2 k9 v9 e9; exact ⟨q.1, q.2.1, by rw [q.2.2, hI_10 (by decide)]⟩), kp10.tr kp2a⟩)
    · have lin := lk_in tk hl (by omega : lk t i ≠ -1)
      refine wp_aload_n dX11_unit_51 rfl ?_
      by_cases e0 : e = 0
      · subst e0
        refine wp_callV dX11_unit_52 mlX11_160 mvX11_goesIn (S_goesIn0 (by rw [hI_10 (by decide)]; exact hf) (by rw [hI_10 (by decide), hd]; rfl)) rfl rfl (by omega) (by decide) rfl rfl rfl (Nat.le_of_ble_eq_true rfl) ?_
        rintro rv h2 ⟨rfl, rfl⟩
        rw [hI_same]
        have hV : V = .inl (sk t i) := by rw [hV, unP_eq]; show pv (unF t (smP t 0) none none i) = _; rw [unF_0 (by omega)]; rfl
        subst hV
        refine wp_ifne 60 dX11_unit_55 (by decide) (by unfold InR; omega) (fun c55 => ?_) (fun c55 => ?_)
        · exact absurd rfl c55
        · refine wp_iconst dX11_unit_58 ?_
          exact wp_zret dX11_unit_59 rfl (by omega) (⟨⟨0, rfl, by omega, fun k9 v9 e9 => (by cases e9)⟩, fun e9 q9 => (by cases q9; exact hI_same), fun k9 v9 e9 => (by cases e9), kp10.tr kp11⟩)
      · obtain ⟨e1, rfl⟩ : ∃ e1, e = e1 + 1 := ⟨e - 1, by omega⟩
        have hV : V = pv (prB (cdP t e1 none (sk t i + 1)) (prX t 41)) := by rw [hV, unP_eq]; show pv (unF t (smP t (e1 + 1)) (some (unP t e1 none, cdP t e1 none)) none i) = _; rw [unF_b c48]
        refine wp_callV dX11_unit_52 mlX11_160 mvX11_goesIn (S_goesIn1 (d := 6 - ((e1 + 1 : Nat) : Int)) (by rw [hI_10 (by decide)]; exact hd) (by omega)) rfl rfl (by omega) (by decide) rfl rfl rfl (Nat.le_of_ble_eq_true rfl) ?_
        rintro rv h2 ⟨rfl, rfl⟩
        rw [hI_same, sI_swap, sI_sI, show ((sk t i : Nat) : Int) + 1 = ((sk t i + 1 : Nat) : Int) by omega, show 6 - ((e1 + 1 : Nat) : Int) + 1 = 6 - ((e1 : Nat) : Int) by omega]
        refine wp_ifne 60 dX11_unit_55 (by decide) (by unfold InR; omega) (fun c55 => ?_) (fun c55 => ?_)
        · refine wp_aload_n dX11_unit_60 rfl ?_
          refine wp_iconst dX11_unit_61 ?_
          refine wp_iconst dX11_unit_62 ?_
          refine wp_callV dX11_unit_63 mlX11_189 mvX11_condition (hC e1 rfl (sI (sI h 47 12 (6 - ((e1 : Nat) : Int))) 47 10 ((sk t i + 1 : Nat) : Int)) t b B (sk t i + 1) ρ none 0 ⟨(tx.kp kp12).kp kp10, tk, hI_same, by omega, by rw [hI_10 (by decide), hI_sI, if_neg (by omega)]; exact hf, by rw [hI_10 (by decide), hI_same], (hlt.kp kp12).kp kp10⟩ inR_0 (fun u q => by cases q)) rfl rfl (by omega) (by decide) rfl rfl rfl (Nat.le_of_ble_eq_true rfl) ?_
          rintro rv h2 ⟨⟨z, rfl, hz01, hzv⟩, he2, hr2, kp2a⟩
          have kp2 : Kp SP h h2 := (kp12.tr kp10).tr kp2a
          have ppS := cdP_pp tk e1 none (i := sk t i + 1) (by omega)
          rcases pv_cs (pv (cdP t e1 none (sk t i + 1))) with ⟨e2, hw⟩ | ⟨k2, v2, hw⟩
          · have he2 := he2 e2 hw
            have eb := pvE ppS hw
            have hV : V = .inl e2 := by rw [hV]; exact pvx_l hw
            subst hV
            refine wp_istore_n dX11_unit_66 (by decide) ?_
            refine wp_aload_n dX11_unit_67 rfl ?_
            refine wp_bipush dX11_unit_68 rfl ?_
            refine wp_callV dX11_unit_70 mlX11_166 mvX11_takes (S_takes2 (by omega) (by rw [he2]; unfold InR; omega)) rfl rfl (by omega) (by decide) rfl rfl rfl (Nat.le_of_ble_eq_true rfl) ?_
            rintro rv h3 ⟨rfl, rfl⟩
            refine wp_ifne 78 dX11_unit_73 (by decide) (by unfold InR; omega) (fun c73 => ?_) (fun c73 => ?_)
            · exact absurd rfl c73
            · refine wp_iconst dX11_unit_76 ?_
              exact wp_zret dX11_unit_77 rfl (by omega) (⟨⟨0, rfl, by omega, fun k9 v9 e9 => (by cases e9)⟩, fun e9 q9 => (by cases q9; exact he2), fun k9 v9 e9 => (by cases e9), kp2⟩)
          · have hr2 := hr2 k2 v2 hw
            have eb := pvP ppS hw
            have tx2 := tx.kp kp2
            have lb2 := lk_b tk eb.2
            have hz := hzv k2 v2 hw
            refine wp_istore_n dX11_unit_66 (by decide) ?_
            refine wp_aload_n dX11_unit_67 rfl ?_
            refine wp_bipush dX11_unit_68 rfl ?_
            refine wp_callV dX11_unit_70 mlX11_166 mvX11_takes (S_X11_takes tx2 tk hr2.2.1 eb.2 hr2.1 (by unfold InR; omega)) rfl rfl (by omega) (by decide) rfl rfl rfl (Nat.le_of_ble_eq_true rfl) ?_
            rintro rv h3 ⟨rfl, rfl⟩
            refine wp_ifneb 78 dX11_unit_73 (by decide) (fun c73 => ?_) (fun c73 => ?_)
            · refine wp_aload_n dX11_unit_78 rfl ?_
              refine wp_dup dX11_unit_79 rfl ?_
              refine wp_getI dX11_unit_80 flX11_134 rfl rfl ?_
              rw [if_pos c73, hI_10 (by decide), hr2.2.2, hI_10 (by decide), hI_same]
              refine wp_iconst dX11_unit_83 ?_
              refine wp_isub dX11_unit_84 ?_
              refine wp_putI dX11_unit_85 plX11_134 rfl rfl ?_
              refine wp_iload_n dX11_unit_88 rfl ?_
              exact wp_zret dX11_unit_89 rfl hz01 (by
              have hV : V = .inr (sk t k2 + 1, v2) := by rw [hV]; exact pvx_y hw c73
              subst hV
              exact ⟨⟨_, rfl, hz01, fun k9 v9 e9 => (by cases e9; exact hz)⟩, fun e9 q9 => (by cases q9), fun k9 v9 e9 => (by cases e9; exact ⟨by rw [hI_sI, if_neg (by omega), hI_10 (by decide)]; exact hr2.1, by rw [hI_sI, if_neg (by omega), hI_same]; omega, by rw [hI_same, hd]; omega⟩), (kp2.tr kp10).tr kp12⟩)
            · refine wp_iconst dX11_unit_76 ?_
              exact wp_zret dX11_unit_77 rfl (by omega) (by
              rw [if_neg c73]
              have hV : V = .inl (sk t k2) := by rw [hV]; exact pvx_n hw c73
              subst hV
              exact ⟨⟨0, rfl, by omega, fun k9 v9 e9 => (by cases e9)⟩, fun e9 q9 => (by cases q9; exact hI_same), fun k9 v9 e9 => (by cases e9), (kp2.tr kp10).tr kp11⟩)
        · exact absurd c55 (by decide)
  · have lin := lk_in tk hl (by omega : lk t i ≠ -1)
    refine wp_aload_n dX11_unit_11 rfl ?_
    by_cases e0 : e = 0
    · subst e0
      refine wp_callV dX11_unit_12 mlX11_160 mvX11_goesIn (S_goesIn0 (by rw [hI_10 (by decide)]; exact hf) (by rw [hI_10 (by decide), hd]; rfl)) rfl rfl (by omega) (by decide) rfl rfl rfl (Nat.le_of_ble_eq_true rfl) ?_
      rintro rv h2 ⟨rfl, rfl⟩
      rw [hI_same]
      have hV : V = .inl (sk t i) := by rw [hV, unP_eq]; show pv (unF t (smP t 0) none none i) = _; rw [unF_0 (by omega)]; rfl
      subst hV
      refine wp_ifne 20 dX11_unit_15 (by decide) (by unfold InR; omega) (fun c15 => ?_) (fun c15 => ?_)
      · exact absurd rfl c15
      · refine wp_iconst dX11_unit_18 ?_
        exact wp_zret dX11_unit_19 rfl (by omega) (⟨⟨0, rfl, by omega, fun k9 v9 e9 => (by cases e9)⟩, fun e9 q9 => (by cases q9; exact hI_same), fun k9 v9 e9 => (by cases e9), kp10.tr kp11⟩)
    · obtain ⟨e1, rfl⟩ : ∃ e1, e = e1 + 1 := ⟨e - 1, by omega⟩
      have hV : V = pv (prB (unP t e1 none (sk t i + 1)) (fun k c v => .inr (k, c ++ [-33], ntV v))) := by rw [hV, unP_eq]; show pv (unF t (smP t (e1 + 1)) (some (unP t e1 none, cdP t e1 none)) none i) = _; rw [unF_x c8]
      refine wp_callV dX11_unit_12 mlX11_160 mvX11_goesIn (S_goesIn1 (d := 6 - ((e1 + 1 : Nat) : Int)) (by rw [hI_10 (by decide)]; exact hd) (by omega)) rfl rfl (by omega) (by decide) rfl rfl rfl (Nat.le_of_ble_eq_true rfl) ?_
      rintro rv h2 ⟨rfl, rfl⟩
      rw [hI_same, sI_swap, sI_sI, show ((sk t i : Nat) : Int) + 1 = ((sk t i + 1 : Nat) : Int) by omega, show 6 - ((e1 + 1 : Nat) : Int) + 1 = 6 - ((e1 : Nat) : Int) by omega]
      refine wp_ifne 20 dX11_unit_15 (by decide) (by unfold InR; omega) (fun c15 => ?_) (fun c15 => ?_)
      · refine wp_aload_n dX11_unit_20 rfl ?_
        refine wp_callV dX11_unit_21 mlX11_186 mvX11_unit (hU e1 rfl (sI (sI h 47 12 (6 - ((e1 : Nat) : Int))) 47 10 ((sk t i + 1 : Nat) : Int)) t b B (sk t i + 1) ρ ⟨(tx.kp kp12).kp kp10, tk, hI_same, by omega, by rw [hI_10 (by decide), hI_sI, if_neg (by omega)]; exact hf, by rw [hI_10 (by decide), hI_same], (hlt.kp kp12).kp kp10⟩) rfl rfl (by omega) (by decide) rfl rfl rfl (Nat.le_of_ble_eq_true rfl) ?_
        rintro rv h2 ⟨⟨z, rfl, hz01, hzv⟩, he2, hr2, kp2a⟩
        have kp2 : Kp SP h h2 := (kp12.tr kp10).tr kp2a
        have ppS := unP_pp tk e1 none (sk t i + 1) (by omega)
        rcases pv_cs (pv (unP t e1 none (sk t i + 1))) with ⟨e2, hw⟩ | ⟨k2, v2, hw⟩
        · have he2 := he2 e2 hw
          have eb := pvE ppS hw
          have hV : V = .inl e2 := by rw [hV]; exact pvq_l hw
          subst hV
          refine wp_istore_n dX11_unit_24 (by decide) ?_
          refine wp_aload_n dX11_unit_25 rfl ?_
          refine wp_dup dX11_unit_26 rfl ?_
          refine wp_getI dX11_unit_27 flX11_134 rfl rfl ?_
          refine wp_iconst dX11_unit_30 ?_
          refine wp_isub dX11_unit_31 ?_
          refine wp_putI dX11_unit_32 plX11_134 rfl rfl ?_
          refine wp_iload_n dX11_unit_35 rfl ?_
          refine wp_ifne 43 dX11_unit_36 (by decide) (by unfold InR; omega) (fun c36 => ?_) (fun c36 => ?_)
          · refine wp_iconst dX11_unit_43 ?_
            exact wp_zret dX11_unit_44 rfl (by omega) (⟨⟨_, rfl, by omega, fun k9 v9 e9 => (by cases e9)⟩, fun e9 q9 => (by cases q9; rw [hI_sI, if_neg (by omega)]; exact he2), fun k9 v9 e9 => (by cases e9), kp2.tr kp12⟩)
          · refine wp_iconst dX11_unit_39 ?_
            refine wp_goto 44 dX11_unit_40 (by decide) ?_
            exact wp_zret dX11_unit_44 rfl (by omega) (⟨⟨_, rfl, by omega, fun k9 v9 e9 => (by cases e9)⟩, fun e9 q9 => (by cases q9; rw [hI_sI, if_neg (by omega)]; exact he2), fun k9 v9 e9 => (by cases e9), kp2.tr kp12⟩)
        · have hr2 := hr2 k2 v2 hw
          have eb := pvP ppS hw
          have hV : V = .inr (k2, ntV v2) := by rw [hV]; exact pvq_y hw
          subst hV
          have hz := hzv k2 v2 hw
          refine wp_istore_n dX11_unit_24 (by decide) ?_
          refine wp_aload_n dX11_unit_25 rfl ?_
          refine wp_dup dX11_unit_26 rfl ?_
          refine wp_getI dX11_unit_27 flX11_134 rfl rfl ?_
          rw [hr2.2.2, hI_10 (by decide), hI_same]
          refine wp_iconst dX11_unit_30 ?_
          refine wp_isub dX11_unit_31 ?_
          refine wp_putI dX11_unit_32 plX11_134 rfl rfl ?_
          refine wp_iload_n dX11_unit_35 rfl ?_
          refine wp_ifne 43 dX11_unit_36 (by decide) (by unfold InR; omega) (fun c36 => ?_) (fun c36 => ?_)
          · refine wp_iconst dX11_unit_43 ?_
            exact wp_zret dX11_unit_44 rfl (by omega) (⟨⟨0, rfl, by omega, fun k9 v9 e9 => (by cases e9; show (0 : Int) = if v2 ρ = 0 then 1 else 0; rw [← hz, if_neg c36])⟩, fun e9 q9 => (by cases q9), fun k9 v9 e9 => (by cases e9; exact ⟨by rw [hI_sI, if_neg (by omega)]; exact hr2.1, by rw [hI_sI, if_neg (by omega)]; exact hr2.2.1, by rw [hI_same, hd]; omega⟩), kp2.tr kp12⟩)
          · refine wp_iconst dX11_unit_39 ?_
            refine wp_goto 44 dX11_unit_40 (by decide) ?_
            exact wp_zret dX11_unit_44 rfl (by omega) (⟨⟨1, rfl, by omega, fun k9 v9 e9 => (by cases e9; show (1 : Int) = if v2 ρ = 0 then 1 else 0; rw [← hz, if_pos c36])⟩, fun e9 q9 => (by cases q9), fun k9 v9 e9 => (by cases e9; exact ⟨by rw [hI_sI, if_neg (by omega)]; exact hr2.1, by rw [hI_sI, if_neg (by omega)]; exact hr2.2.1, by rw [hI_same, hd]; omega⟩), kp2.tr kp12⟩)
      · exact absurd c15 (by decide)

theorem jb_and {x y : Int} (hx : x = 0 ∨ x = 1) (hy : y = 0 ∨ y = 1) : jn 38 x y = if x ≠ 0 ∧ y ≠ 0 then 1 else 0 := by
  rcases hx with rfl | rfl <;> rcases hy with rfl | rfl <;> decide
theorem jb_or {x y : Int} (hx : x = 0 ∨ x = 1) (hy : y = 0 ∨ y = 1) : jn 124 x y = if x ≠ 0 ∨ y ≠ 0 then 1 else 0 := by
  rcases hx with rfl | rfl <;> rcases hy with rfl | rfl <;> decide

set_option maxRecDepth 20000 in
theorem S_X11_part0 {X : Cx} {e : Nat} (he6 : e ≤ 6) (hM : CmM X e) (hU : UnM X e) : PtM X e := by
  intro h t b B i ρ f z0 hp hz0 hfz
  obtain ⟨tx, tk, hi, hl, hf, hd, hlt⟩ := hp
  have hp : PLm h t b B i (6 - e) ρ := ⟨tx, tk, hi, hl, hf, hd, hlt⟩
  have t160 := tk.1
  have lb := lk_b tk hl
  have sb := sk_b t hl
  obtain ⟨V, hV⟩ : ∃ V, V = pv (trP t e f i) := ⟨_, rfl⟩
  rw [← hV]
  have hV : V = pvB (pv (unP t e f i)) (fun k v => lqF t J3 (unP t e) 160 (sv 0 v0 v) k) := by rw [hV]; exact pv_lp t J3 (unP t e) 160 f 0 v0 i
  refine spec_wp (Nat.le_of_ble_eq_true rfl) (by decide +kernel) ?_
  refine wp_loc [(0, .ref (adr X 47)), (1, .int (iI (b2i (f.isSome = true)))), (2, .int (iI z0))] ⟨rfl, rfl, rfl, trivial⟩ ?_
  have KF : ∀ (h9 : Hp) (z : Int) (ee : Nat), (z = 0 ∨ z = 1) → hI h9 47 11 = (ee : Int) → ee ≤ t.length → Kp SP h h9 → V = .inl ee → WP X mX11_part (3 * e + 11) 18 [(0, .ref (adr X 47)), (3, .int (iI z))] [] h9 (PMb h ρ V) := by
    intro h9 z ee hz hf9 hee kp9 hV
    refine wp_aload_n dX11_part_18 rfl ?_
    refine wp_getI dX11_part_19 flX11_131 rfl rfl ?_
    rw [hf9]
    refine wp_iconst dX11_part_22 ?_
    refine wp_icmpne 69 dX11_part_23 (by decide) (by unfold InR; omega) (by unfold InR; omega) (fun c23 => ?_) (fun c23 => ?_)
    · refine wp_iload_n dX11_part_69 rfl ?_
      exact wp_zret dX11_part_70 rfl hz (by
    subst hV
    exact ⟨⟨z, rfl, hz, fun k9 v9 e9 => (by cases e9)⟩, fun e9 q9 => (by cases q9; exact hf9), fun k9 v9 e9 => (by cases e9), kp9⟩)
    · exact absurd c23 (by omega)
  have Lpr : ∀ (n k : Nat) (u : Vl) (z : Int) (h1 : Hp), t.length < n + k → k ≤ t.length → TXm h1 t b B → hI h1 47 10 = k → hI h1 47 11 = -1 → hI h1 47 12 = 6 - e → LTm h1 ρ → Kp SP h h1 → z = u ρ → (z = 0 ∨ z = 1) → V = lqF t J3 (unP t e) n u k → WP X mX11_part (3 * e + 11) 18 [(0, .ref (adr X 47)), (3, .int (iI z))] [] h1 (PMb h ρ V) := by
    intro n
    induction n using Nat.strongRecOn with
    | ind n ihs =>
      intro k u z h1 hn hk tx1 hk1 hf1 hd1 hl1 kp1 hzu hz hV
      have ih : ∀ (k2 : Nat) (u : Vl) (z : Int) (h1 : Hp), k < k2 → k2 ≤ t.length → TXm h1 t b B → hI h1 47 10 = k2 → hI h1 47 11 = -1 → hI h1 47 12 = 6 - e → LTm h1 ρ → Kp SP h h1 → z = u ρ → (z = 0 ∨ z = 1) → V = lqF t J3 (unP t e) (n - 1) u k2 → WP X mX11_part (3 * e + 11) 18 [(0, .ref (adr X 47)), (3, .int (iI z))] [] h1 (PMb h ρ V) := fun k2 u z h1 a1 a2 a3 a4 a5 a6 a7 a8 a9 a10 a11 => ihs (n - 1) (by omega) k2 u z h1 (by omega) a2 a3 a4 a5 a6 a7 a8 a9 a10 a11
      have lb1 := lk_b tk hk
      have sk1 := sk_b t hk
      unfold lqF at hV
      refine wp_aload_n dX11_part_18 rfl ?_
      refine wp_getI dX11_part_19 flX11_131 rfl rfl ?_
      rw [hf1]
      refine wp_iconst dX11_part_22 ?_
      refine wp_icmpne 69 dX11_part_23 (by decide) (by unfold InR; omega) (by unfold InR; omega) (fun c23 => ?_) (fun c23 => ?_)
      · exact absurd rfl c23
      · refine wp_aload_n dX11_part_26 rfl ?_
        refine wp_callV dX11_part_27 mlX11_141 mvX11_look (S_X11_look (i := k) (tx.kp kp1) tk hk1 hk) rfl rfl (by omega) (by decide) rfl rfl rfl (Nat.le_of_ble_eq_true rfl) ?_
        rintro rv h8 ⟨rfl, rfl⟩
        refine wp_bipush dX11_part_30 rfl ?_
        refine wp_icmpne 69 dX11_part_32 (by decide) (by unfold InR; omega) (by unfold InR; omega) (fun c32 => ?_) (fun c32 => ?_)
        · refine wp_iload_n dX11_part_69 rfl ?_
          exact wp_zret dX11_part_70 rfl hz (by
  rw [if_neg (by rw [J3_t]; omega)] at hV
  subst hV
  exact ⟨⟨z, rfl, hz, fun k9 v9 e9 => (by cases e9; exact hzu)⟩, fun e9 q9 => (by cases q9), fun k9 v9 e9 => (by cases e9; exact ⟨by rw [hI_10 (by decide)]; exact hf1, hI_same, by rw [hI_10 (by decide), hd1, hd]⟩), kp1.tr kp10⟩)
        · have lin := lk_in tk hk (by omega : lk t k ≠ -1)
          obtain ⟨n, rfl⟩ : ∃ q, n = q + 1 := ⟨n - 1, by omega⟩
          rw [if_pos (by rw [J3_t]; omega), c32, pv_lp] at hV
          refine wp_aload_n dX11_part_35 rfl ?_
          refine wp_dup dX11_part_36 rfl ?_
          refine wp_getI dX11_part_37 flX11_122 rfl rfl ?_
          rw [hI_same]
          refine wp_iconst dX11_part_40 ?_
          refine wp_iadd dX11_part_41 ?_
          refine wp_putI dX11_part_42 plX11_122 rfl rfl ?_
          rw [sI_sI, show ((sk t k : Nat) : Int) + 1 = ((sk t k + 1 : Nat) : Int) by omega]
          refine wp_aload_n dX11_part_45 rfl ?_
          refine wp_callV dX11_part_46 mlX11_186 mvX11_unit (hU (sI h1 47 10 ((sk t k + 1 : Nat) : Int)) t b B (sk t k + 1) ρ ⟨(tx.kp kp1).kp kp10, tk, hI_same, by omega, by rw [hI_10 (by decide)]; exact hf1, by rw [hI_10 (by decide)]; exact hd1, (hlt.kp kp1).kp kp10⟩) rfl rfl (by omega) (by decide) rfl rfl rfl (Nat.le_of_ble_eq_true rfl) ?_
          rintro rv h2 ⟨⟨z2, rfl, hz2, hzv⟩, he2, hr2, kp2a⟩
          have kp2 := (kp1.tr kp10).tr kp2a
          rcases pv_cs (pv (unP t e none (sk t k + 1))) with ⟨e2, hw⟩ | ⟨k2, v2, hw⟩
          · have he2 := he2 e2 hw
            refine wp_istore dX11_part_49 (by decide) ?_
            refine wp_iload_n dX11_part_51 rfl ?_
            refine wp_ifeq 64 dX11_part_52 (by decide) (by unfold InR; omega) (fun c52 => ?_) (fun c52 => ?_)
            · refine wp_iconst dX11_part_64 ?_
              refine wp_istore_n dX11_part_65 (by decide) ?_
              refine wp_goto 18 dX11_part_66 (by decide) ?_
              refine wp_loc [(0, .ref (adr X 47)), (3, .int (iI 0))] ⟨rfl, rfl, trivial⟩ ?_
              exact KF h2 0 e2 (by omega) he2 (pvE (unP_pp tk e none (sk t k + 1) (by omega)) hw) kp2 (by rw [hV, hw]; rfl)
            · refine wp_iload dX11_part_55 rfl ?_
              refine wp_ifeq 64 dX11_part_57 (by decide) (by unfold InR; omega) (fun c57 => ?_) (fun c57 => ?_)
              · refine wp_iconst dX11_part_64 ?_
                refine wp_istore_n dX11_part_65 (by decide) ?_
                refine wp_goto 18 dX11_part_66 (by decide) ?_
                refine wp_loc [(0, .ref (adr X 47)), (3, .int (iI 0))] ⟨rfl, rfl, trivial⟩ ?_
                exact KF h2 0 e2 (by omega) he2 (pvE (unP_pp tk e none (sk t k + 1) (by omega)) hw) kp2 (by rw [hV, hw]; rfl)
              · refine wp_iconst dX11_part_60 ?_
                refine wp_goto 65 dX11_part_61 (by decide) ?_
                refine wp_istore_n dX11_part_65 (by decide) ?_
                refine wp_goto 18 dX11_part_66 (by decide) ?_
                refine wp_loc [(0, .ref (adr X 47)), (3, .int (iI 1))] ⟨rfl, rfl, trivial⟩ ?_
                exact KF h2 1 e2 (by omega) he2 (pvE (unP_pp tk e none (sk t k + 1) (by omega)) hw) kp2 (by rw [hV, hw]; rfl)
          · refine wp_istore dX11_part_49 (by decide) ?_
            refine wp_iload_n dX11_part_51 rfl ?_
            refine wp_ifeq 64 dX11_part_52 (by decide) (by unfold InR; omega) (fun c52 => ?_) (fun c52 => ?_)
            · refine wp_iconst dX11_part_64 ?_
              refine wp_istore_n dX11_part_65 (by decide) ?_
              refine wp_goto 18 dX11_part_66 (by decide) ?_
              refine wp_loc [(0, .ref (adr X 47)), (3, .int (iI 0))] ⟨rfl, rfl, trivial⟩ ?_
              exact ih k2 (fun ρ => jn 38 (u ρ) (v2 ρ)) 0 h2 (by have := pvP (unP_pp tk e none (sk t k + 1) (by omega)) hw; omega) (pvP (unP_pp tk e none (sk t k + 1) (by omega)) hw).2 (tx.kp kp2) (hr2 k2 v2 hw).2.1 (hr2 k2 v2 hw).1 (by rw [(hr2 k2 v2 hw).2.2, hI_10 (by decide)]; exact hd1) (hlt.kp kp2) kp2 (by show (0 : Int) = jn 38 (u ρ) (v2 ρ); rw [← hzu, ← hzv k2 v2 hw, jb_and hz hz2]; rw [if_neg (by omega)]) (by omega) (by rw [hV, hw]; rfl)
            · refine wp_iload dX11_part_55 rfl ?_
              refine wp_ifeq 64 dX11_part_57 (by decide) (by unfold InR; omega) (fun c57 => ?_) (fun c57 => ?_)
              · refine wp_iconst dX11_part_64 ?_
                refine wp_istore_n dX11_part_65 (by decide) ?_
                refine wp_goto 18 dX11_part_66 (by decide) ?_
                refine wp_loc [(0, .ref (adr X 47)), (3, .int (iI 0))] ⟨rfl, rfl, trivial⟩ ?_
                exact ih k2 (fun ρ => jn 38 (u ρ) (v2 ρ)) 0 h2 (by have := pvP (unP_pp tk e none (sk t k + 1) (by omega)) hw; omega) (pvP (unP_pp tk e none (sk t k + 1) (by omega)) hw).2 (tx.kp kp2) (hr2 k2 v2 hw).2.1 (hr2 k2 v2 hw).1 (by rw [(hr2 k2 v2 hw).2.2, hI_10 (by decide)]; exact hd1) (hlt.kp kp2) kp2 (by show (0 : Int) = jn 38 (u ρ) (v2 ρ); rw [← hzu, ← hzv k2 v2 hw, jb_and hz hz2]; rw [if_neg (by omega)]) (by omega) (by rw [hV, hw]; rfl)
              · refine wp_iconst dX11_part_60 ?_
                refine wp_goto 65 dX11_part_61 (by decide) ?_
                refine wp_istore_n dX11_part_65 (by decide) ?_
                refine wp_goto 18 dX11_part_66 (by decide) ?_
                refine wp_loc [(0, .ref (adr X 47)), (3, .int (iI 1))] ⟨rfl, rfl, trivial⟩ ?_
                exact ih k2 (fun ρ => jn 38 (u ρ) (v2 ρ)) 1 h2 (by have := pvP (unP_pp tk e none (sk t k + 1) (by omega)) hw; omega) (pvP (unP_pp tk e none (sk t k + 1) (by omega)) hw).2 (tx.kp kp2) (hr2 k2 v2 hw).2.1 (hr2 k2 v2 hw).1 (by rw [(hr2 k2 v2 hw).2.2, hI_10 (by decide)]; exact hd1) (hlt.kp kp2) kp2 (by show (1 : Int) = jn 38 (u ρ) (v2 ρ); rw [← hzu, ← hzv k2 v2 hw, jb_and hz hz2]; rw [if_pos (by omega)]) (by omega) (by rw [hV, hw]; rfl)
  refine wp_iload_n dX11_part_0 rfl ?_
  refine wp_ifeqb 13 dX11_part_1 (by decide) (fun c1 => ?_) (fun c1 => ?_)
  · obtain rfl : f = none := by cases f with
      | none => rfl
      | some u => exact absurd rfl c1
    refine wp_aload_n dX11_part_13 rfl ?_
    refine wp_callV dX11_part_14 mlX11_186 mvX11_unit (hU h t b B i ρ hp) rfl rfl (by omega) (by decide) rfl rfl rfl (Nat.le_of_ble_eq_true rfl) ?_
    rintro rv h1 ⟨⟨z, rfl, hz, hzv⟩, he1, hr1, kp1⟩
    rcases pv_cs (pv (unP t e none i)) with ⟨e2, hw⟩ | ⟨k2, v2, hw⟩
    · have he1 := he1 e2 hw
      refine wp_istore_n dX11_part_17 (by decide) ?_
      refine wp_loc [(0, .ref (adr X 47)), (3, .int (iI z))] ⟨rfl, rfl, trivial⟩ ?_
      exact KF h1 z e2 hz he1 (pvE (unP_pp tk e none i hl) hw) kp1 (by rw [hV, hw]; rfl)
    · have hr1 := hr1 k2 v2 hw
      have eb := pvP (unP_pp tk e none i hl) hw
      refine wp_istore_n dX11_part_17 (by decide) ?_
      refine wp_loc [(0, .ref (adr X 47)), (3, .int (iI z))] ⟨rfl, rfl, trivial⟩ ?_
      exact Lpr 160 k2 v2 z h1 (by omega) eb.2 (tx.kp kp1) hr1.2.1 hr1.1 (by rw [hr1.2.2]; exact hd) (hlt.kp kp1) kp1 (hzv k2 v2 hw) hz (by rw [hV, hw]; rfl)
  · obtain ⟨u9, rfl⟩ : ∃ u, f = some u := Option.isSome_iff_exists.mp c1
    refine wp_aload_n dX11_part_4 rfl ?_
    refine wp_iconst dX11_part_5 ?_
    refine wp_iload_n dX11_part_6 rfl ?_
    refine wp_callV dX11_part_7 mlX11_193 mvX11_compares (hM h t b B i ρ (some u9) z0 hp hz0 (fun u q => by cases q; exact hfz _ rfl)) rfl rfl (by omega) (by decide) rfl rfl rfl (Nat.le_of_ble_eq_true rfl) ?_
    rintro rv h1 ⟨⟨z, rfl, hz, hzv⟩, he1, hr1, kp1⟩
    refine wp_goto 17 dX11_part_10 (by decide) ?_
    rw [show cmV t e (some u9) i = pv (unP t e (some u9) i) by rw [unP_eq]; rfl] at hzv he1 hr1
    rcases pv_cs (pv (unP t e (some u9) i)) with ⟨e2, hw⟩ | ⟨k2, v2, hw⟩
    · have he1 := he1 e2 hw
      refine wp_istore_n dX11_part_17 (by decide) ?_
      refine wp_loc [(0, .ref (adr X 47)), (3, .int (iI z))] ⟨rfl, rfl, trivial⟩ ?_
      exact KF h1 z e2 hz he1 (pvE (unP_pp tk e (some u9) i hl) hw) kp1 (by rw [hV, hw]; rfl)
    · have hr1 := hr1 k2 v2 hw
      have eb := pvP (unP_pp tk e (some u9) i hl) hw
      refine wp_istore_n dX11_part_17 (by decide) ?_
      refine wp_loc [(0, .ref (adr X 47)), (3, .int (iI z))] ⟨rfl, rfl, trivial⟩ ?_
      exact Lpr 160 k2 v2 z h1 (by omega) eb.2 (tx.kp kp1) hr1.2.1 hr1.1 (by rw [hr1.2.2]; exact hd) (hlt.kp kp1) kp1 (hzv k2 v2 hw) hz (by rw [hV, hw]; rfl)

set_option maxRecDepth 20000 in
theorem S_X11_condition0 {X : Cx} {e : Nat} (he6 : e ≤ 6) (hU : PtM X e) : CdM X e := by
  intro h t b B i ρ f z0 hp hz0 hfz
  obtain ⟨tx, tk, hi, hl, hf, hd, hlt⟩ := hp
  have hp : PLm h t b B i (6 - e) ρ := ⟨tx, tk, hi, hl, hf, hd, hlt⟩
  have t160 := tk.1
  have lb := lk_b tk hl
  have sb := sk_b t hl
  obtain ⟨V, hV⟩ : ∃ V, V = pv (cdP t e f i) := ⟨_, rfl⟩
  rw [← hV]
  have hV : V = pvB (pv (trP t e f i)) (fun k v => lqF t J4 (trP t e) 160 (sv 0 v0 v) k) := by rw [hV]; exact pv_lp t J4 (trP t e) 160 f 0 v0 i
  refine spec_wp (Nat.le_of_ble_eq_true rfl) (by decide +kernel) ?_
  refine wp_loc [(0, .ref (adr X 47)), (1, .int (iI (b2i (f.isSome = true)))), (2, .int (iI z0))] ⟨rfl, rfl, rfl, trivial⟩ ?_
  have KF : ∀ (h9 : Hp) (z : Int) (ee : Nat), (z = 0 ∨ z = 1) → hI h9 47 11 = (ee : Int) → ee ≤ t.length → Kp SP h h9 → V = .inl ee → WP X mX11_condition (3 * e + 12) 7 [(0, .ref (adr X 47)), (3, .int (iI z))] [] h9 (PMb h ρ V) := by
    intro h9 z ee hz hf9 hee kp9 hV
    refine wp_aload_n dX11_condition_7 rfl ?_
    refine wp_getI dX11_condition_8 flX11_131 rfl rfl ?_
    rw [hf9]
    refine wp_iconst dX11_condition_11 ?_
    refine wp_icmpne 60 dX11_condition_12 (by decide) (by unfold InR; omega) (by unfold InR; omega) (fun c12 => ?_) (fun c12 => ?_)
    · refine wp_iload_n dX11_condition_60 rfl ?_
      exact wp_zret dX11_condition_61 rfl hz (by
    subst hV
    exact ⟨⟨z, rfl, hz, fun k9 v9 e9 => (by cases e9)⟩, fun e9 q9 => (by cases q9; exact hf9), fun k9 v9 e9 => (by cases e9), kp9⟩)
    · exact absurd c12 (by omega)
  have Lpr : ∀ (n k : Nat) (u : Vl) (z : Int) (h1 : Hp), t.length < n + k → k ≤ t.length → TXm h1 t b B → hI h1 47 10 = k → hI h1 47 11 = -1 → hI h1 47 12 = 6 - e → LTm h1 ρ → Kp SP h h1 → z = u ρ → (z = 0 ∨ z = 1) → V = lqF t J4 (trP t e) n u k → WP X mX11_condition (3 * e + 12) 7 [(0, .ref (adr X 47)), (3, .int (iI z))] [] h1 (PMb h ρ V) := by
    intro n
    induction n using Nat.strongRecOn with
    | ind n ihs =>
      intro k u z h1 hn hk tx1 hk1 hf1 hd1 hl1 kp1 hzu hz hV
      have ih : ∀ (k2 : Nat) (u : Vl) (z : Int) (h1 : Hp), k < k2 → k2 ≤ t.length → TXm h1 t b B → hI h1 47 10 = k2 → hI h1 47 11 = -1 → hI h1 47 12 = 6 - e → LTm h1 ρ → Kp SP h h1 → z = u ρ → (z = 0 ∨ z = 1) → V = lqF t J4 (trP t e) (n - 1) u k2 → WP X mX11_condition (3 * e + 12) 7 [(0, .ref (adr X 47)), (3, .int (iI z))] [] h1 (PMb h ρ V) := fun k2 u z h1 a1 a2 a3 a4 a5 a6 a7 a8 a9 a10 a11 => ihs (n - 1) (by omega) k2 u z h1 (by omega) a2 a3 a4 a5 a6 a7 a8 a9 a10 a11
      have lb1 := lk_b tk hk
      have sk1 := sk_b t hk
      unfold lqF at hV
      refine wp_aload_n dX11_condition_7 rfl ?_
      refine wp_getI dX11_condition_8 flX11_131 rfl rfl ?_
      rw [hf1]
      refine wp_iconst dX11_condition_11 ?_
      refine wp_icmpne 60 dX11_condition_12 (by decide) (by unfold InR; omega) (by unfold InR; omega) (fun c12 => ?_) (fun c12 => ?_)
      · exact absurd rfl c12
      · refine wp_aload_n dX11_condition_15 rfl ?_
        refine wp_callV dX11_condition_16 mlX11_141 mvX11_look (S_X11_look (i := k) (tx.kp kp1) tk hk1 hk) rfl rfl (by omega) (by decide) rfl rfl rfl (Nat.le_of_ble_eq_true rfl) ?_
        rintro rv h8 ⟨rfl, rfl⟩
        refine wp_bipush dX11_condition_19 rfl ?_
        refine wp_icmpne 60 dX11_condition_21 (by decide) (by unfold InR; omega) (by unfold InR; omega) (fun c21 => ?_) (fun c21 => ?_)
        · refine wp_iload_n dX11_condition_60 rfl ?_
          exact wp_zret dX11_condition_61 rfl hz (by
  rw [if_neg (by rw [J4_t]; omega)] at hV
  subst hV
  exact ⟨⟨z, rfl, hz, fun k9 v9 e9 => (by cases e9; exact hzu)⟩, fun e9 q9 => (by cases q9), fun k9 v9 e9 => (by cases e9; exact ⟨by rw [hI_10 (by decide)]; exact hf1, hI_same, by rw [hI_10 (by decide), hd1, hd]⟩), kp1.tr kp10⟩)
        · have lin := lk_in tk hk (by omega : lk t k ≠ -1)
          obtain ⟨n, rfl⟩ : ∃ q, n = q + 1 := ⟨n - 1, by omega⟩
          rw [if_pos (by rw [J4_t]; omega), c21, pv_lp] at hV
          refine wp_aload_n dX11_condition_24 rfl ?_
          refine wp_dup dX11_condition_25 rfl ?_
          refine wp_getI dX11_condition_26 flX11_122 rfl rfl ?_
          rw [hI_same]
          refine wp_iconst dX11_condition_29 ?_
          refine wp_iadd dX11_condition_30 ?_
          refine wp_putI dX11_condition_31 plX11_122 rfl rfl ?_
          rw [sI_sI, show ((sk t k : Nat) : Int) + 1 = ((sk t k + 1 : Nat) : Int) by omega]
          refine wp_aload_n dX11_condition_34 rfl ?_
          refine wp_iconst dX11_condition_35 ?_
          refine wp_iconst dX11_condition_36 ?_
          refine wp_callV dX11_condition_37 mlX11_196 mvX11_part (hU (sI h1 47 10 ((sk t k + 1 : Nat) : Int)) t b B (sk t k + 1) ρ none 0 ⟨(tx.kp kp1).kp kp10, tk, hI_same, by omega, by rw [hI_10 (by decide)]; exact hf1, by rw [hI_10 (by decide)]; exact hd1, (hlt.kp kp1).kp kp10⟩ inR_0 (fun u q => by cases q)) rfl rfl (by omega) (by decide) rfl rfl rfl (Nat.le_of_ble_eq_true rfl) ?_
          rintro rv h2 ⟨⟨z2, rfl, hz2, hzv⟩, he2, hr2, kp2a⟩
          have kp2 := (kp1.tr kp10).tr kp2a
          rcases pv_cs (pv (trP t e none (sk t k + 1))) with ⟨e2, hw⟩ | ⟨k2, v2, hw⟩
          · have he2 := he2 e2 hw
            refine wp_istore dX11_condition_40 (by decide) ?_
            refine wp_iload_n dX11_condition_42 rfl ?_
            refine wp_ifne 51 dX11_condition_43 (by decide) (by unfold InR; omega) (fun c43 => ?_) (fun c43 => ?_)
            · refine wp_iconst dX11_condition_51 ?_
              refine wp_goto 56 dX11_condition_52 (by decide) ?_
              refine wp_istore_n dX11_condition_56 (by decide) ?_
              refine wp_goto 7 dX11_condition_57 (by decide) ?_
              refine wp_loc [(0, .ref (adr X 47)), (3, .int (iI 1))] ⟨rfl, rfl, trivial⟩ ?_
              exact KF h2 1 e2 (by omega) he2 (pvE (trP_pp tk e none (i := (sk t k + 1)) (by omega)) hw) kp2 (by rw [hV, hw]; rfl)
            · refine wp_iload dX11_condition_46 rfl ?_
              refine wp_ifeq 55 dX11_condition_48 (by decide) (by unfold InR; omega) (fun c48 => ?_) (fun c48 => ?_)
              · refine wp_iconst dX11_condition_55 ?_
                refine wp_istore_n dX11_condition_56 (by decide) ?_
                refine wp_goto 7 dX11_condition_57 (by decide) ?_
                refine wp_loc [(0, .ref (adr X 47)), (3, .int (iI 0))] ⟨rfl, rfl, trivial⟩ ?_
                exact KF h2 0 e2 (by omega) he2 (pvE (trP_pp tk e none (i := (sk t k + 1)) (by omega)) hw) kp2 (by rw [hV, hw]; rfl)
              · refine wp_iconst dX11_condition_51 ?_
                refine wp_goto 56 dX11_condition_52 (by decide) ?_
                refine wp_istore_n dX11_condition_56 (by decide) ?_
                refine wp_goto 7 dX11_condition_57 (by decide) ?_
                refine wp_loc [(0, .ref (adr X 47)), (3, .int (iI 1))] ⟨rfl, rfl, trivial⟩ ?_
                exact KF h2 1 e2 (by omega) he2 (pvE (trP_pp tk e none (i := (sk t k + 1)) (by omega)) hw) kp2 (by rw [hV, hw]; rfl)
          · refine wp_istore dX11_condition_40 (by decide) ?_
            refine wp_iload_n dX11_condition_42 rfl ?_
            refine wp_ifne 51 dX11_condition_43 (by decide) (by unfold InR; omega) (fun c43 => ?_) (fun c43 => ?_)
            · refine wp_iconst dX11_condition_51 ?_
              refine wp_goto 56 dX11_condition_52 (by decide) ?_
              refine wp_istore_n dX11_condition_56 (by decide) ?_
              refine wp_goto 7 dX11_condition_57 (by decide) ?_
              refine wp_loc [(0, .ref (adr X 47)), (3, .int (iI 1))] ⟨rfl, rfl, trivial⟩ ?_
              exact ih k2 (fun ρ => jn 124 (u ρ) (v2 ρ)) 1 h2 (by have := pvP (trP_pp tk e none (i := (sk t k + 1)) (by omega)) hw; omega) (pvP (trP_pp tk e none (i := (sk t k + 1)) (by omega)) hw).2 (tx.kp kp2) (hr2 k2 v2 hw).2.1 (hr2 k2 v2 hw).1 (by rw [(hr2 k2 v2 hw).2.2, hI_10 (by decide)]; exact hd1) (hlt.kp kp2) kp2 (by show (1 : Int) = jn 124 (u ρ) (v2 ρ); rw [← hzu, ← hzv k2 v2 hw, jb_or hz hz2]; rw [if_pos (by omega)]) (by omega) (by rw [hV, hw]; rfl)
            · refine wp_iload dX11_condition_46 rfl ?_
              refine wp_ifeq 55 dX11_condition_48 (by decide) (by unfold InR; omega) (fun c48 => ?_) (fun c48 => ?_)
              · refine wp_iconst dX11_condition_55 ?_
                refine wp_istore_n dX11_condition_56 (by decide) ?_
                refine wp_goto 7 dX11_condition_57 (by decide) ?_
                refine wp_loc [(0, .ref (adr X 47)), (3, .int (iI 0))] ⟨rfl, rfl, trivial⟩ ?_
                exact ih k2 (fun ρ => jn 124 (u ρ) (v2 ρ)) 0 h2 (by have := pvP (trP_pp tk e none (i := (sk t k + 1)) (by omega)) hw; omega) (pvP (trP_pp tk e none (i := (sk t k + 1)) (by omega)) hw).2 (tx.kp kp2) (hr2 k2 v2 hw).2.1 (hr2 k2 v2 hw).1 (by rw [(hr2 k2 v2 hw).2.2, hI_10 (by decide)]; exact hd1) (hlt.kp kp2) kp2 (by show (0 : Int) = jn 124 (u ρ) (v2 ρ); rw [← hzu, ← hzv k2 v2 hw, jb_or hz hz2]; rw [if_neg (by omega)]) (by omega) (by rw [hV, hw]; rfl)
              · refine wp_iconst dX11_condition_51 ?_
                refine wp_goto 56 dX11_condition_52 (by decide) ?_
                refine wp_istore_n dX11_condition_56 (by decide) ?_
                refine wp_goto 7 dX11_condition_57 (by decide) ?_
                refine wp_loc [(0, .ref (adr X 47)), (3, .int (iI 1))] ⟨rfl, rfl, trivial⟩ ?_
                exact ih k2 (fun ρ => jn 124 (u ρ) (v2 ρ)) 1 h2 (by have := pvP (trP_pp tk e none (i := (sk t k + 1)) (by omega)) hw; omega) (pvP (trP_pp tk e none (i := (sk t k + 1)) (by omega)) hw).2 (tx.kp kp2) (hr2 k2 v2 hw).2.1 (hr2 k2 v2 hw).1 (by rw [(hr2 k2 v2 hw).2.2, hI_10 (by decide)]; exact hd1) (hlt.kp kp2) kp2 (by show (1 : Int) = jn 124 (u ρ) (v2 ρ); rw [← hzu, ← hzv k2 v2 hw, jb_or hz hz2]; rw [if_pos (by omega)]) (by omega) (by rw [hV, hw]; rfl)
  refine wp_aload_n dX11_condition_0 rfl ?_
  refine wp_iload_n dX11_condition_1 rfl ?_
  refine wp_iload_n dX11_condition_2 rfl ?_
  refine wp_callV dX11_condition_3 mlX11_196 mvX11_part (hU h t b B i ρ f z0 hp hz0 hfz) rfl rfl (by omega) (by decide) rfl rfl rfl (Nat.le_of_ble_eq_true rfl) ?_
  rintro rv h1 ⟨⟨z, rfl, hz, hzv⟩, he1, hr1, kp1⟩
  rcases pv_cs (pv (trP t e f i)) with ⟨e2, hw⟩ | ⟨k2, v2, hw⟩
  · have he1 := he1 e2 hw
    refine wp_istore_n dX11_condition_6 (by decide) ?_
    refine wp_loc [(0, .ref (adr X 47)), (3, .int (iI z))] ⟨rfl, rfl, trivial⟩ ?_
    exact KF h1 z e2 hz he1 (pvE (trP_pp tk e f hl) hw) kp1 (by rw [hV, hw]; rfl)
  · have hr1 := hr1 k2 v2 hw
    have eb := pvP (trP_pp tk e f hl) hw
    refine wp_istore_n dX11_condition_6 (by decide) ?_
    refine wp_loc [(0, .ref (adr X 47)), (3, .int (iI z))] ⟨rfl, rfl, trivial⟩ ?_
    exact Lpr 160 k2 v2 z h1 (by omega) eb.2 (tx.kp kp1) hr1.2.1 hr1.1 (by rw [hr1.2.2]; exact hd) (hlt.kp kp1) kp1 (hzv k2 v2 hw) hz (by rw [hV, hw]; rfl)

theorem S_X11_uc {X : Cx} : ∀ (e : Nat), e ≤ 6 → UnM X e ∧ CdM X e
  | 0, h => by
    have m := S_X11_compares (X := X) h (S_X11_sum 0 h)
    have u := S_X11_unit0 (X := X) h m (fun e1 q => by omega) (fun e1 q => by omega)
    exact ⟨u, S_X11_condition0 h (S_X11_part0 h m u)⟩
  | e + 1, h => by
    have r := S_X11_uc (X := X) e (by omega)
    have m := S_X11_compares (X := X) h (S_X11_sum (e + 1) h)
    have u := S_X11_unit0 (X := X) h m (fun e1 q => by obtain rfl : e = e1 := (by omega); exact r.1) (fun e1 q => by obtain rfl : e = e1 := (by omega); exact r.2)
    exact ⟨u, S_X11_condition0 h (S_X11_part0 h m u)⟩

