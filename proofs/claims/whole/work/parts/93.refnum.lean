/-! the reference: numbers of a GARDEN, the ground -/
abbrev dgt (t : List Int) (i : Nat) : Prop := 48 ≤ bt t i ∧ bt t i ≤ 57
theorem nmF_u {t : List Int} {m n i c : Nat} {v : Int} (h : t.length ≤ i + n) : nmF t m n i c v = if dgt t i then (if c = m then .inl i else nmF t m (n - 1) (i + 1) (c + 1) (v * 10 + bt t i - 48)) else (if c = 0 then .inl i else .inr (i, v)) := by
  cases n with
  | zero => rw [nmF, if_neg (show ¬ dgt t i from fun q => by have e := bt_out (t := t) (i := i) (by omega); omega)]
  | succ n => rw [nmF]; rfl
theorem nm_2 {t : List Int} {j : Nat} (hd : dgt t j) : nm t 2 j = if dgt t (j + 1) then (if dgt t (j + 2) then .inl (j + 2) else .inr (j + 2, (bt t j - 48) * 10 + bt t (j + 1) - 48)) else .inr (j + 1, bt t j - 48) := by
  unfold nm
  rw [nmF_u (by omega), if_pos hd, if_neg (by omega), nmF_u (by omega)]
  by_cases d1 : dgt t (j + 1)
  · rw [if_pos d1, if_pos d1, if_neg (by omega), nmF_u (by omega)]
    by_cases d2 : dgt t (j + 2)
    · rw [if_pos d2, if_pos d2, if_pos (by omega)]
    · rw [if_neg d2, if_neg d2, if_neg (by omega), show (0 * 10 + bt t j - 48) * 10 + bt t (j + 1) - 48 = (bt t j - 48) * 10 + bt t (j + 1) - 48 by omega]
  · rw [if_neg d1, if_neg d1, if_neg (by omega), show 0 * 10 + bt t j - 48 = bt t j - 48 by omega]
def nuR (lo hi : Int) (r : Nat ⊕ (Nat × Int)) : Nat ⊕ (Nat × Int) := match r with
  | .inl e => .inl e
  | .inr (k, x) => if x < lo ∨ hi < x then .inl (k - 1) else .inr (k, x)
def PMn (h : Hp) (V : Nat ⊕ (Nat × Int)) (rv : Option Value) (h' : Hp) : Prop := (∃ z, rv = some (.int (iI z)) ∧ InR z ∧ ∀ k x, V = .inr (k, x) → z = x) ∧ (∀ e, V = .inl e → hI h' 47 11 = (e : Int)) ∧ (∀ k x, V = .inr (k, x) → hI h' 47 11 = -1 ∧ hI h' 47 10 = (k : Int)) ∧ Kp SP h h'
theorem nm_in {t : List Int} {j : Nat} (h : dgt t j) : j < t.length := by
  by_cases q : j < t.length
  · exact q
  · have e := bt_out (t := t) (i := j) (by omega); omega

set_option maxRecDepth 20000 in
theorem S_X11_number {X : Cx} {h : Hp} {t : List Int} {b B i : Nat} {lo hi : Int} (tx : TXm h t b B) (tk : TOK t) (hi0 : hI h 47 10 = i) (hl : i ≤ t.length) (hf : hI h 47 11 = -1) (hlo : InR lo) (hhi : InR hi) : Spec X mX11_number 2 [.ref (adr X 47), .int (iI lo), .int (iI hi)] h (PMn h (nuR lo hi (nm t 2 (sk t i)))) := by
  have t160 := tk.1
  have lb := lk_b tk hl
  have sb := sk_b t hl
  obtain ⟨V, hV⟩ : ∃ V, V = nuR lo hi (nm t 2 (sk t i)) := ⟨_, rfl⟩
  rw [← hV]
  refine spec_wp (Nat.le_of_ble_eq_true rfl) (by decide +kernel) ?_
  refine wp_loc [(0, .ref (adr X 47)), (1, .int (iI lo)), (2, .int (iI hi))] ⟨rfl, rfl, rfl, trivial⟩ ?_
  have K67 : ∀ (p : Nat) (v : Int), 1 ≤ p → p ≤ t.length → 0 ≤ v → v ≤ 99 → V = (if dgt t p then .inl p else (if v < lo ∨ hi < v then .inl (p - 1) else .inr (p, v))) → WP X mX11_number 2 67 [(0, .ref (adr X 47)), (1, .int (iI lo)), (2, .int (iI hi)), (4, .int (iI v))] [] (sI h 47 10 (p : Int)) (PMn h V) := by
    intro p v hp1 hp v0 v99 hV
    refine wp_aload_n dX11_number_67 rfl ?_
    refine wp_callVp dX11_number_68 mlX11_170 mvX11_isDigit (S_X11_isDigit (i := p) (tx.kp kp10) tk hI_same hp) rfl rfl (by omega) (by decide) rfl rfl rfl (Nat.le_of_ble_eq_true rfl) ?_
    refine wp_ifeqb 81 dX11_number_71 (by decide) (fun c71 => ?_) (fun c71 => ?_)
    · refine wp_iload dX11_number_81 rfl ?_
      refine wp_i2lI dX11_number_83 (by first | assumption | (unfold InR; omega)) ?_
      refine wp_iload_n dX11_number_84 rfl ?_
      refine wp_i2lI dX11_number_85 (by first | assumption | (unfold InR; omega)) ?_
      refine wp_iload_n dX11_number_86 rfl ?_
      refine wp_i2lI dX11_number_87 (by first | assumption | (unfold InR; omega)) ?_
      refine wp_callSp dX11_number_88 mlX11_219 msX11_isIn (S_X11_isIn (a := v) (b := lo) (c := hi) (by unfold InL; omega) (hlo.L) (hhi.L)) rfl rfl (by omega) (by decide) (Nat.le_of_ble_eq_true rfl) ?_
      refine wp_ifneb 111 dX11_number_91 (by decide) (fun c91 => ?_) (fun c91 => ?_)
      · refine wp_iload dX11_number_111 rfl ?_
        exact wp_iret dX11_number_113 rfl (by
    rw [if_neg (show ¬ dgt t p from c71), if_neg (by omega)] at hV
    subst hV
    exact ⟨⟨v, rfl, by unfold InR; omega, fun k9 x9 e9 => (by cases e9; rfl)⟩, fun e9 q9 => (by cases q9), fun k9 x9 e9 => (by cases e9; exact ⟨by rw [hI_10 (by decide)]; exact hf, hI_same⟩), kp10⟩)
      · refine wp_aload_n dX11_number_94 rfl ?_
        refine wp_dup dX11_number_95 rfl ?_
        refine wp_getI dX11_number_96 flX11_122 rfl rfl ?_
        rw [hI_same]
        refine wp_iconst dX11_number_99 ?_
        refine wp_isub dX11_number_100 ?_
        refine wp_putI dX11_number_101 plX11_122 rfl rfl ?_
        rw [sI_sI, show ((p : Nat) : Int) - 1 = ((p - 1 : Nat) : Int) by omega]
        refine wp_aload_n dX11_number_104 rfl ?_
        refine wp_callV dX11_number_105 mlX11_137 mvX11_fails (S_X11_fails (by rw [hI_10 (by decide)]; exact hf)) rfl rfl (by omega) (by decide) rfl rfl rfl (Nat.le_of_ble_eq_true rfl) ?_
        rintro rv h2 ⟨rfl, rfl⟩
        rw [hI_same]
        refine wp_pop dX11_number_108 rfl ?_
        refine wp_iconst dX11_number_109 ?_
        exact wp_iret dX11_number_110 rfl (by
    rw [if_neg (show ¬ dgt t p from c71), if_pos (by omega)] at hV
    subst hV
    exact ⟨⟨(-1), rfl, by unfold InR; omega, fun k9 x9 e9 => (by cases e9)⟩, fun e9 q9 => (by cases q9; exact hI_same), fun k9 x9 e9 => (by cases e9), kp10.tr kp11⟩)
    · refine wp_aload_n dX11_number_74 rfl ?_
      refine wp_callV dX11_number_75 mlX11_137 mvX11_fails (S_X11_fails (by rw [hI_10 (by decide)]; exact hf)) rfl rfl (by omega) (by decide) rfl rfl rfl (Nat.le_of_ble_eq_true rfl) ?_
      rintro rv h2 ⟨rfl, rfl⟩
      rw [hI_same]
      refine wp_pop dX11_number_78 rfl ?_
      refine wp_iconst dX11_number_79 ?_
      exact wp_iret dX11_number_80 rfl (by
    rw [if_pos (show dgt t p from c71)] at hV
    subst hV
    exact ⟨⟨(-1), rfl, by unfold InR; omega, fun k9 x9 e9 => (by cases e9)⟩, fun e9 q9 => (by cases q9; exact hI_same), fun k9 x9 e9 => (by cases e9), kp10.tr kp11⟩)
  refine wp_aload_n dX11_number_0 rfl ?_
  refine wp_callV dX11_number_1 mlX11_141 mvX11_look (S_X11_look tx tk hi0 hl) rfl rfl (by omega) (by decide) rfl rfl rfl (Nat.le_of_ble_eq_true rfl) ?_
  rintro rv h1 ⟨rfl, rfl⟩
  refine wp_istore_n dX11_number_4 (by decide) ?_
  refine wp_aload_n dX11_number_5 rfl ?_
  refine wp_callVp dX11_number_6 mlX11_170 mvX11_isDigit (S_X11_isDigit (i := sk t i) (tx.kp kp10) tk hI_same sb.2) rfl rfl (by omega) (by decide) rfl rfl rfl (Nat.le_of_ble_eq_true rfl) ?_
  refine wp_ifneb 19 dX11_number_9 (by decide) (fun c9 => ?_) (fun c9 => ?_)
  · have lin := nm_in c9
    rw [nm_2 c9] at hV
    refine wp_iload_n dX11_number_19 rfl ?_
    refine wp_bipush dX11_number_20 rfl ?_
    refine wp_isub dX11_number_22 ?_
    refine wp_istore dX11_number_23 (by decide) ?_
    refine wp_aload_n dX11_number_25 rfl ?_
    refine wp_dup dX11_number_26 rfl ?_
    refine wp_getI dX11_number_27 flX11_122 rfl rfl ?_
    rw [hI_same]
    refine wp_iconst dX11_number_30 ?_
    refine wp_iadd dX11_number_31 ?_
    refine wp_putI dX11_number_32 plX11_122 rfl rfl ?_
    rw [sI_sI, show ((sk t i : Nat) : Int) + 1 = ((sk t i + 1 : Nat) : Int) by omega]
    refine wp_aload_n dX11_number_35 rfl ?_
    refine wp_callVp dX11_number_36 mlX11_170 mvX11_isDigit (S_X11_isDigit (i := sk t i + 1) (tx.kp kp10) tk hI_same (by omega)) rfl rfl (by omega) (by decide) rfl rfl rfl (Nat.le_of_ble_eq_true rfl) ?_
    refine wp_ifeqb 67 dX11_number_39 (by decide) (fun c39 => ?_) (fun c39 => ?_)
    · rw [if_neg (show ¬ dgt t (sk t i + 1) from c39)] at hV
      refine wp_loc [(0, .ref (adr X 47)), (1, .int (iI lo)), (2, .int (iI hi)), (4, .int (iI (bt t (sk t i) - 48)))] ⟨rfl, rfl, rfl, rfl, trivial⟩ ?_
      exact K67 (sk t i + 1) (bt t (sk t i) - 48) (by omega) (by omega) (by omega) (by omega) (by rw [hV, if_neg (show ¬ dgt t (sk t i + 1) from c39)]; rfl)
    · have lin2 := nm_in c39
      rw [if_pos (show dgt t (sk t i + 1) from c39)] at hV
      refine wp_bipush dX11_number_42 rfl ?_
      refine wp_iload dX11_number_44 rfl ?_
      refine wp_imul dX11_number_46 ?_
      refine wp_aload_n dX11_number_47 rfl ?_
      refine wp_callVp dX11_number_48 mlX11_216 mvX11_here (S_X11_here (i := sk t i + 1) (tx.kp kp10) tk hI_same (by omega)) rfl rfl (by omega) (by decide) rfl rfl rfl (Nat.le_of_ble_eq_true rfl) ?_
      refine wp_iadd dX11_number_51 ?_
      refine wp_bipush dX11_number_52 rfl ?_
      refine wp_isub dX11_number_54 ?_
      refine wp_istore dX11_number_55 (by decide) ?_
      refine wp_aload_n dX11_number_57 rfl ?_
      refine wp_dup dX11_number_58 rfl ?_
      refine wp_getI dX11_number_59 flX11_122 rfl rfl ?_
      rw [hI_same]
      refine wp_iconst dX11_number_62 ?_
      refine wp_iadd dX11_number_63 ?_
      refine wp_putI dX11_number_64 plX11_122 rfl rfl ?_
      rw [sI_sI, show ((sk t i + 1 : Nat) : Int) + 1 = ((sk t i + 2 : Nat) : Int) by omega]
      refine wp_loc [(0, .ref (adr X 47)), (1, .int (iI lo)), (2, .int (iI hi)), (4, .int (iI (10 * (bt t (sk t i) - 48) + bt t (sk t i + 1) - 48)))] ⟨rfl, rfl, rfl, rfl, trivial⟩ ?_
      exact K67 (sk t i + 2) (10 * (bt t (sk t i) - 48) + bt t (sk t i + 1) - 48) (by omega) (by omega) (by omega) (by omega) (by
        rw [hV]
        by_cases d2 : dgt t (sk t i + 2)
        · rw [if_pos d2, if_pos d2]; rfl
        · rw [if_neg d2, if_neg d2, show (bt t (sk t i) - 48) * 10 + bt t (sk t i + 1) - 48 = 10 * (bt t (sk t i) - 48) + bt t (sk t i + 1) - 48 by omega]; rfl)
  · refine wp_aload_n dX11_number_12 rfl ?_
    refine wp_callV dX11_number_13 mlX11_137 mvX11_fails (S_X11_fails (by rw [hI_10 (by decide)]; exact hf)) rfl rfl (by omega) (by decide) rfl rfl rfl (Nat.le_of_ble_eq_true rfl) ?_
    rintro rv h2 ⟨rfl, rfl⟩
    rw [hI_same]
    refine wp_pop dX11_number_16 rfl ?_
    refine wp_iconst dX11_number_17 ?_
    exact wp_iret dX11_number_18 rfl (by
  rw [nm_none c9] at hV
  subst hV
  exact ⟨⟨(-1), rfl, by unfold InR; omega, fun k9 x9 e9 => (by cases e9)⟩, fun e9 q9 => (by cases q9; exact hI_same), fun k9 x9 e9 => (by cases e9), kp10.tr kp11⟩)

