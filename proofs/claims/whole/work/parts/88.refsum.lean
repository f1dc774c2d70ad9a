/-! the reference: ATOM, PRODUCT, SUM -/
abbrev PVr : Type := Nat ⊕ (Nat × Vl)
def pv (r : PR) : PVr := match r with
  | .inl e => .inl e
  | .inr (k, _, v) => .inr (k, v)
def pvB (r : PVr) (f : Nat → Vl → PVr) : PVr := match r with
  | .inl e => .inl e
  | .inr (k, v) => f k v
theorem pv_app (c : List Int) (r : PR) : pv (app c r) = pv r := by cases r <;> rfl
/-- behind a part at k, u so far -/
def lqF (t : List Int) (J : Int → Bool) (A : Option Vl → Nat → PR) (n : Nat) (u : Vl) (k : Nat) : PVr := if J (lk t k) = true then pv (lpF t J A n none (lk t k) u (sk t k + 1)) else .inr (sk t k, u)
theorem pv_lp (t : List Int) (J : Int → Bool) (A : Option Vl → Nat → PR) (n : Nat) (f : Option Vl) (m : Int) (w : Vl) (i : Nat) : pv (lpF t J A (n + 1) f m w i) = pvB (pv (A f i)) (fun k v => lqF t J A n (sv m w v) k) := by
  rw [lpF_s]
  cases A f i with
  | inl e => rfl
  | inr z =>
    obtain ⟨k, c, v⟩ := z
    rw [prB_inr]
    show _ = lqF t J A n (sv m w v) k
    unfold lqF
    by_cases h : J (lk t k) = true
    · rw [jK_t h, if_pos h, pv_app]
    · rw [jK_f h, if_neg h]; rfl
/-- what a part of the reference's reader leaves -/
def PMv (h : Hp) (ρ : Int → Int) (V : PVr) (rv : Option Value) (h' : Hp) : Prop := (∃ z, rv = some (.int (iI z)) ∧ InR z ∧ ∀ k v, V = .inr (k, v) → z = v ρ) ∧ (∀ e, V = .inl e → hI h' 47 11 = e) ∧ (∀ k v, V = .inr (k, v) → hI h' 47 11 = -1 ∧ hI h' 47 10 = k ∧ hI h' 47 12 = hI h 47 12) ∧ Kp SP h h'
def AtM (X : Cx) (e : Nat) : Prop := ∀ (h : Hp) (t : List Int) (b B i : Nat) (ρ : Int → Int), PLm h t b B i (6 - e) ρ → Spec X mX11_atom (3 * e + 6) [.ref (adr X 47)] h (PMv h ρ (pv (atP t e i)))
def TmM (X : Cx) (e : Nat) : Prop := ∀ (h : Hp) (t : List Int) (b B i : Nat) (ρ : Int → Int), PLm h t b B i (6 - e) ρ → Spec X mX11_term (3 * e + 7) [.ref (adr X 47)] h (PMv h ρ (pv (tmP t e i)))
def SmM (X : Cx) (e : Nat) : Prop := ∀ (h : Hp) (t : List Int) (b B i : Nat) (ρ : Int → Int), PLm h t b B i (6 - e) ρ → Spec X mX11_sum (3 * e + 8) [.ref (adr X 47)] h (PMv h ρ (pv (smP t e i)))
theorem pvP {t : List Int} {i k : Nat} {v : Vl} {r : PR} (p : PP t i 0 r) (h : pv r = .inr (k, v)) : i < k ∧ k ≤ t.length := by
  cases r with
  | inl e => cases h
  | inr z => obtain ⟨k2, c, v2⟩ := z; cases h; exact ⟨p.1, p.2.1⟩
theorem pvE {t : List Int} {i e : Nat} {r : PR} (p : PP t i 0 r) (h : pv r = .inl e) : e ≤ t.length := by
  cases r with
  | inl e2 => cases h; exact p
  | inr z => obtain ⟨k2, c, v2⟩ := z; cases h
theorem pv_cs (r : PVr) : (∃ e, r = .inl e) ∨ ∃ k v, r = .inr (k, v) := by
  cases r with
  | inl e => exact Or.inl ⟨e, rfl⟩
  | inr z => exact Or.inr ⟨z.1, z.2, rfl⟩
theorem ix_gp {c : Int} : ixF c (sls 3) 0 ≠ -1 ↔ (c = 103 ∨ c = 112 ∨ c = 116 ∨ c = 115 ∨ c = 110) := by
  show ixF c [103, 112, 116, 115, 110] 0 ≠ -1 ↔ _
  unfold ixF ixF ixF ixF ixF ixF
  repeat' split
  all_goals omega

def pvN (r : Nat ⊕ (Nat × Int)) : PVr := match r with
  | .inl e => .inl e
  | .inr (k, v) => .inr (k, fun _ => v)
theorem pv_nm (r : Nat ⊕ (Nat × Int)) : pv (match r with | .inl e => .inl e | .inr (k, v) => .inr (k, [v], fun _ => v)) = pvN r := by
  cases r with
  | inl e => rfl
  | inr z => rfl
theorem nm_none {t : List Int} {m i : Nat} (h : ¬ (48 ≤ bt t i ∧ bt t i ≤ 57)) : nm t m i = .inl i := by
  unfold nm
  cases t.length - i with
  | zero => rfl
  | succ n => unfold nmF; rw [if_neg h, if_pos rfl]
theorem pvx_l {r : PR} {t : List Int} {b : Int} {e : Nat} (h : pv r = .inl e) : pv (prB r (prX t b)) = .inl e := by
  cases r with
  | inl e2 => cases h; rfl
  | inr z => obtain ⟨k2, c, v2⟩ := z; cases h
theorem pvx_n {r : PR} {t : List Int} {b : Int} {k : Nat} {v : Vl} (h : pv r = .inr (k, v)) (hb : ¬ lk t k = b) : pv (prB r (prX t b)) = .inl (sk t k) := by
  cases r with
  | inl e2 => cases h
  | inr z => obtain ⟨k2, c, v2⟩ := z; cases h; rw [prB_inr]; unfold prX; rw [if_neg hb]; rfl
theorem pvx_y {r : PR} {t : List Int} {b : Int} {k : Nat} {v : Vl} (h : pv r = .inr (k, v)) (hb : lk t k = b) : pv (prB r (prX t b)) = .inr (sk t k + 1, v) := by
  cases r with
  | inl e2 => cases h
  | inr z => obtain ⟨k2, c, v2⟩ := z; cases h; rw [prB_inr]; unfold prX; rw [if_pos hb]; rfl
theorem sI_swap (h : Hp) (v w x : Int) : sI (sI (sI h 47 10 v) 47 12 w) 47 10 x = sI (sI (sI h 47 12 w) 47 10 v) 47 10 x := by
  unfold sI
  refine Prod.ext ?_ rfl
  funext b k
  show up2 (up2 (up2 h.1 47 10 v) 47 12 w) 47 10 x b k = up2 (up2 (up2 h.1 47 12 w) 47 10 v) 47 10 x b k
  unfold up2
  by_cases e : b = 47 ∧ k = 10
  · rw [if_pos e, if_pos e]
  · rw [if_neg e, if_neg e, if_neg e]
    split <;> rfl

set_option maxRecDepth 20000 in
theorem S_X11_atom {X : Cx} {e : Nat} (he6 : e ≤ 6) (hS : ∀ e1, e = e1 + 1 → SmM X e1) : AtM X e := by
  intro h t b B i ρ hp
  obtain ⟨tx, tk, hi, hl, hf, hd, hlt⟩ := hp
  have hp : PLm h t b B i (6 - e) ρ := ⟨tx, tk, hi, hl, hf, hd, hlt⟩
  have t160 := tk.1
  have lb := lk_b tk hl
  have sb := sk_b t hl
  obtain ⟨V, hV⟩ : ∃ V, V = pv (atP t e i) := ⟨_, rfl⟩
  rw [← hV]
  refine spec_wp (Nat.le_of_ble_eq_true rfl) (by decide +kernel) ?_
  refine wp_loc [(0, .ref (adr X 47))] ⟨rfl, trivial⟩ ?_
  refine wp_aload_n dX11_atom_0 rfl ?_
  refine wp_callV dX11_atom_1 mlX11_141 mvX11_look (S_X11_look tx tk hi hl) rfl rfl (by omega) (by decide) rfl rfl rfl (Nat.le_of_ble_eq_true rfl) ?_
  rintro rv h1 ⟨rfl, rfl⟩
  refine wp_istore_n dX11_atom_4 (by decide) ?_
  refine wp_ldcS (RX11, 32, "gptsn", 113) dX11_atom_5 (by unfold srL; simp) rfl rfl ?_
  refine wp_iload_n dX11_atom_7 rfl ?_
  refine wp_callSp dX11_atom_8 mlX11_156 msX11_isAmong (S_X11_isAmong (s := 3) (by decide) (by unfold InR; omega)) rfl rfl (by omega) (by decide) (Nat.le_of_ble_eq_true rfl) ?_
  refine wp_ifeqb 31 dX11_atom_11 (by decide) (fun c11 => ?_) (fun c11 => ?_)
  · refine wp_iload_n dX11_atom_31 rfl ?_
    refine wp_bipush dX11_atom_32 rfl ?_
    refine wp_icmpne 74 dX11_atom_34 (by decide) (by unfold InR; omega) (by unfold InR; omega) (fun c34 => ?_) (fun c34 => ?_)
    · rw [ix_gp] at c11
      have hV : V = pv (atF t (atS t e) i) := by rw [hV, atP_eq]
      unfold atF at hV
      refine wp_aload_n dX11_atom_74 rfl ?_
      refine wp_callVp dX11_atom_75 mlX11_170 mvX11_isDigit (S_X11_isDigit (i := sk t i) (tx.kp kp10) tk hI_same sb.2) rfl rfl (by omega) (by decide) rfl rfl rfl (Nat.le_of_ble_eq_true rfl) ?_
      refine wp_ifneb 86 dX11_atom_78 (by decide) (fun c78 => ?_) (fun c78 => ?_)
      · rw [if_neg c34, if_neg (by omega)] at hV
        have hV : V = pvN (nmF t 4 (t.length - sk t i) (sk t i) 0 0) := by rw [hV]; exact pv_nm _
        have Lnm : ∀ (n : Nat) (j c : Nat) (v : Int), (j + n = t.length ∧ sk t i ≤ j) → (c ≤ 4 ∧ 0 ≤ v ∧ v < 10 ^ c) → (V = pvN (nmF t 4 n j c v)) → (1 ≤ c ∨ (48 ≤ bt t j ∧ bt t j ≤ 57)) → WP X mX11_atom ((3 * e + 6)) 90 [(0, .ref (adr X 47)), (2, .int (iI v)), (3, .int (iI (c : Int)))] [] (sI h 47 10 ((j : Nat) : Int)) (PMv h ρ V) := by
          intro n
          induction n with
          | zero =>
            intro j c v hj hc hV hc0
            have txj := tx.kp (kp10 (h := h) (v := ((j : Nat) : Int)))
            obtain ⟨n9, hn9, hle9⟩ := txj.sh tk
            have B480 : B ≤ 480 := by have := txj.2.1; omega
            have vb : v < 10000 := by
              have h4 : (10 : Int) ^ c ≤ 10 ^ 4 := by exact_mod_cast Nat.pow_le_pow_right (by decide) hc.1
              have h5 : (10 : Int) ^ 4 = 10000 := by decide
              omega
            refine wp_aload_n dX11_atom_90 rfl ?_
            refine wp_callVp dX11_atom_91 mlX11_170 mvX11_isDigit (S_X11_isDigit (i := j) txj tk hI_same (by omega)) rfl rfl (by omega) (by decide) rfl rfl rfl (Nat.le_of_ble_eq_true rfl) ?_
            refine wp_ifeqb 156 dX11_atom_94 (by decide) (fun c94 => ?_) (fun c94 => ?_)
            · refine wp_iload_n dX11_atom_156 rfl ?_
              exact wp_iret dX11_atom_157 rfl (by
          have hc1 : ¬ c = 0 := by
            rcases hc0 with q | q
            · omega
            · rw [bt_out (by omega)] at q; omega
          have hV : V = .inr (j, fun _ => v) := by rw [hV, nmF, if_neg hc1]; rfl
          subst hV
          exact ⟨⟨v, rfl, by unfold InR; omega, fun k9 v9 e9 => (by cases e9; rfl)⟩, fun e9 q9 => (by cases q9), fun k9 v9 e9 => (by cases e9; exact ⟨by rw [hI_10 (by decide)]; exact hf, hI_same, hI_10 (by decide)⟩), kp10⟩)
            · rw [bt_out (by omega)] at c94; exact absurd c94 (by omega)
          | succ n ih =>
            intro j c v hj hc hV hc0
            have txj := tx.kp (kp10 (h := h) (v := ((j : Nat) : Int)))
            obtain ⟨n9, hn9, hle9⟩ := txj.sh tk
            have B480 : B ≤ 480 := by have := txj.2.1; omega
            have vb : v < 10000 := by
              have h4 : (10 : Int) ^ c ≤ 10 ^ 4 := by exact_mod_cast Nat.pow_le_pow_right (by decide) hc.1
              have h5 : (10 : Int) ^ 4 = 10000 := by decide
              omega
            refine wp_aload_n dX11_atom_90 rfl ?_
            refine wp_callVp dX11_atom_91 mlX11_170 mvX11_isDigit (S_X11_isDigit (i := j) txj tk hI_same (by omega)) rfl rfl (by omega) (by decide) rfl rfl rfl (Nat.le_of_ble_eq_true rfl) ?_
            refine wp_ifeqb 156 dX11_atom_94 (by decide) (fun c94 => ?_) (fun c94 => ?_)
            · refine wp_iload_n dX11_atom_156 rfl ?_
              exact wp_iret dX11_atom_157 rfl (by
          have hc1 : ¬ c = 0 := by
            rcases hc0 with q | q
            · omega
            · exact absurd q c94
          have hV : V = .inr (j, fun _ => v) := by rw [hV, nmF, if_neg c94, if_neg hc1]; rfl
          subst hV
          exact ⟨⟨v, rfl, by unfold InR; omega, fun k9 v9 e9 => (by cases e9; rfl)⟩, fun e9 q9 => (by cases q9), fun k9 v9 e9 => (by cases e9; exact ⟨by rw [hI_10 (by decide)]; exact hf, hI_same, hI_10 (by decide)⟩), kp10⟩)
            · rw [nmF, if_pos c94] at hV
              refine wp_aload_n dX11_atom_97 rfl ?_
              refine wp_getI dX11_atom_98 flX11_131 rfl rfl ?_
              rw [hI_10 (by decide), hf]
              refine wp_iconst dX11_atom_101 ?_
              refine wp_icmpne 156 dX11_atom_102 (by decide) (by unfold InR; omega) (by unfold InR; omega) (fun c102 => ?_) (fun c102 => ?_)
              · exact absurd rfl c102
              · refine wp_iload_n dX11_atom_105 rfl ?_
                refine wp_iconst dX11_atom_106 ?_
                refine wp_icmpne 117 dX11_atom_107 (by decide) (by unfold InR; omega) (by unfold InR; omega) (fun c107 => ?_) (fun c107 => ?_)
                · rw [if_neg (by omega)] at hV
                  have bb := bt_b tk (i := j) (by omega)
                  have sb8 : sbt (bt t j) = bt t j := by unfold sbt; rw [if_pos (by omega)]
                  refine wp_bipush dX11_atom_117 rfl ?_
                  refine wp_iload_n dX11_atom_119 rfl ?_
                  refine wp_imul dX11_atom_120 ?_
                  refine wp_aload_n dX11_atom_121 rfl ?_
                  refine wp_getM dX11_atom_122 flX11_23 rfl rfl ?_
                  rw [txj.1]
                  refine wp_aload_n dX11_atom_125 rfl ?_
                  refine wp_getI dX11_atom_126 flX11_128 rfl rfl ?_
                  rw [txj.2.2.1]
                  refine wp_aload_n dX11_atom_129 rfl ?_
                  refine wp_getI dX11_atom_130 flX11_122 rfl rfl ?_
                  rw [hI_same]
                  refine wp_iadd dX11_atom_133 ?_
                  refine wp_bald dX11_atom_134 hn9 (by omega) (by omega) ?_
                  rw [show (((B : Nat) : Int) + ((j : Nat) : Int)).toNat = B + j by omega, txj.at (by omega), sb8]
                  refine wp_iadd dX11_atom_135 ?_
                  refine wp_bipush dX11_atom_136 rfl ?_
                  refine wp_isub dX11_atom_138 ?_
                  refine wp_istore_n dX11_atom_139 (by decide) ?_
                  refine wp_aload_n dX11_atom_140 rfl ?_
                  refine wp_dup dX11_atom_141 rfl ?_
                  refine wp_getI dX11_atom_142 flX11_122 rfl rfl ?_
                  rw [hI_same]
                  refine wp_iconst dX11_atom_145 ?_
                  refine wp_iadd dX11_atom_146 ?_
                  refine wp_putI dX11_atom_147 plX11_122 rfl rfl ?_
                  rw [sI_sI, show ((j : Nat) : Int) + 1 = ((j + 1 : Nat) : Int) by omega]
                  refine wp_iinc dX11_atom_150 rfl (by decide) ?_
                  refine wp_goto 90 dX11_atom_153 (by decide) ?_
                  have p10 : (10 : Int) ^ (c + 1) = 10 ^ c * 10 := Int.pow_succ _ _
                  refine wp_loc [(0, .ref (adr X 47)), (2, .int (iI (10 * v + bt t j - 48))), (3, .int (iI ((c + 1 : Nat) : Int)))] ⟨rfl, rfl, rfl, trivial⟩ ?_
                  exact ih (j + 1) (c + 1) _ (by omega) (by omega) (by rw [hV, show v * 10 + bt t j - 48 = 10 * v + bt t j - 48 by omega]) (Or.inl (by omega))
                · refine wp_aload_n dX11_atom_110 rfl ?_
                  refine wp_callV dX11_atom_111 mlX11_137 mvX11_fails (S_X11_fails (by rw [hI_10 (by decide)]; exact hf)) rfl rfl (by omega) (by decide) rfl rfl rfl (Nat.le_of_ble_eq_true rfl) ?_
                  rintro rv h2 ⟨rfl, rfl⟩
                  rw [hI_same]
                  refine wp_pop dX11_atom_114 rfl ?_
                  refine wp_iconst dX11_atom_115 ?_
                  exact wp_iret dX11_atom_116 rfl (by
          have hV : V = .inl j := by rw [hV, if_pos (by omega)]; rfl
          subst hV
          exact ⟨⟨0, rfl, by unfold InR; omega, fun k9 v9 e9 => (by cases e9)⟩, fun e9 q9 => (by cases q9; exact hI_same), fun k9 v9 e9 => (by cases e9), kp10.tr kp11⟩)
        refine wp_iconst dX11_atom_86 ?_
        refine wp_istore_n dX11_atom_87 (by decide) ?_
        refine wp_iconst dX11_atom_88 ?_
        refine wp_istore_n dX11_atom_89 (by decide) ?_
        refine wp_loc [(0, .ref (adr X 47)), (2, .int (iI 0)), (3, .int (iI ((0 : Nat) : Int)))] ⟨rfl, rfl, rfl, trivial⟩ ?_
        exact Lnm (t.length - sk t i) (sk t i) 0 0 (by omega) (by decide) hV (Or.inr c78)
      · refine wp_aload_n dX11_atom_81 rfl ?_
        refine wp_callV dX11_atom_82 mlX11_137 mvX11_fails (S_X11_fails (by rw [hI_10 (by decide)]; exact hf)) rfl rfl (by omega) (by decide) rfl rfl rfl (Nat.le_of_ble_eq_true rfl) ?_
        rintro rv h2 ⟨rfl, rfl⟩
        rw [hI_same]
        refine wp_pop dX11_atom_85 rfl ?_
        rw [if_neg c34, if_neg (by omega), nm_none c78] at hV
        have hV : V = .inl (sk t i) := hV
        subst hV
        refine wp_iconst dX11_atom_86 ?_
        refine wp_istore_n dX11_atom_87 (by decide) ?_
        refine wp_iconst dX11_atom_88 ?_
        refine wp_istore_n dX11_atom_89 (by decide) ?_
        refine wp_aload_n dX11_atom_90 rfl ?_
        refine wp_callVp dX11_atom_91 mlX11_170 mvX11_isDigit (S_X11_isDigit (i := sk t i) ((tx.kp kp10).kp kp11) tk (by rw [hI_sI, if_neg (by omega), hI_same]) sb.2) rfl rfl (by omega) (by decide) rfl rfl rfl (Nat.le_of_ble_eq_true rfl) ?_
        refine wp_ifeqb 156 dX11_atom_94 (by decide) (fun c94 => ?_) (fun c94 => ?_)
        · refine wp_iload_n dX11_atom_156 rfl ?_
          exact wp_iret dX11_atom_157 rfl (⟨⟨0, rfl, by unfold InR; omega, fun k9 v9 e9 => (by cases e9)⟩, fun e9 q9 => (by cases q9; exact hI_same), fun k9 v9 e9 => (by cases e9), kp10.tr kp11⟩)
        · exact absurd c94 c78
    · have lin := lk_in tk hl (by omega : lk t i ≠ -1)
      refine wp_aload_n dX11_atom_37 rfl ?_
      by_cases e0 : e = 0
      · subst e0
        refine wp_callV dX11_atom_38 mlX11_160 mvX11_goesIn (S_goesIn0 (by rw [hI_10 (by decide)]; exact hf) (by rw [hI_10 (by decide), hd]; rfl)) rfl rfl (by omega) (by decide) rfl rfl rfl (Nat.le_of_ble_eq_true rfl) ?_
        rintro rv h2 ⟨rfl, rfl⟩
        rw [hI_same]
        have hV : V = .inl (sk t i) := by rw [hV]; show pv (atF t none i) = _; unfold atF; rw [if_pos c34]; rfl
        subst hV
        refine wp_ifne 46 dX11_atom_41 (by decide) (by unfold InR; omega) (fun c41 => ?_) (fun c41 => ?_)
        · exact absurd rfl c41
        · refine wp_iconst dX11_atom_44 ?_
          exact wp_iret dX11_atom_45 rfl (⟨⟨0, rfl, by unfold InR; omega, fun k9 v9 e9 => (by cases e9)⟩, fun e9 q9 => (by cases q9; exact hI_same), fun k9 v9 e9 => (by cases e9), kp10.tr kp11⟩)
      · obtain ⟨e1, rfl⟩ : ∃ e1, e = e1 + 1 := ⟨e - 1, by omega⟩
        have hV : V = pv (prB (smP t e1 (sk t i + 1)) (prX t 93)) := by rw [hV]; show pv (atF t (some (smP t e1)) i) = _; unfold atF; rw [if_pos c34]
        refine wp_callV dX11_atom_38 mlX11_160 mvX11_goesIn (S_goesIn1 (d := 6 - ((e1 + 1 : Nat) : Int)) (by rw [hI_10 (by decide)]; exact hd) (by omega)) rfl rfl (by omega) (by decide) rfl rfl rfl (Nat.le_of_ble_eq_true rfl) ?_
        rintro rv h2 ⟨rfl, rfl⟩
        rw [hI_same, sI_swap, sI_sI, show ((sk t i : Nat) : Int) + 1 = ((sk t i + 1 : Nat) : Int) by omega, show 6 - ((e1 + 1 : Nat) : Int) + 1 = 6 - ((e1 : Nat) : Int) by omega]
        refine wp_ifne 46 dX11_atom_41 (by decide) (by unfold InR; omega) (fun c41 => ?_) (fun c41 => ?_)
        · refine wp_aload_n dX11_atom_46 rfl ?_
          refine wp_callV dX11_atom_47 mlX11_163 mvX11_sum (hS e1 rfl (sI (sI h 47 12 (6 - ((e1 : Nat) : Int))) 47 10 ((sk t i + 1 : Nat) : Int)) t b B (sk t i + 1) ρ ⟨(tx.kp kp12).kp kp10, tk, hI_same, by omega, by rw [hI_10 (by decide), hI_sI, if_neg (by omega)]; exact hf, by rw [hI_10 (by decide), hI_same], (hlt.kp kp12).kp kp10⟩) rfl rfl (by omega) (by decide) rfl rfl rfl (Nat.le_of_ble_eq_true rfl) ?_
          rintro rv h2 ⟨⟨z, rfl, hz, hzv⟩, he2, hr2, kp2a⟩
          have kp2 : Kp SP h h2 := (kp12.tr kp10).tr kp2a
          have ppS := smP_pp tk e1 (sk t i + 1) (by omega)
          refine wp_istore_n dX11_atom_50 (by decide) ?_
          rcases pv_cs (pv (smP t e1 (sk t i + 1))) with ⟨e2, hw⟩ | ⟨k2, v2, hw⟩
          · have he2 := he2 e2 hw
            have eb := pvE ppS hw
            have hV : V = .inl e2 := by rw [hV]; exact pvx_l hw
            subst hV
            refine wp_aload_n dX11_atom_51 rfl ?_
            refine wp_bipush dX11_atom_52 rfl ?_
            refine wp_callV dX11_atom_54 mlX11_166 mvX11_takes (S_takes2 (by omega) (by rw [he2]; unfold InR; omega)) rfl rfl (by omega) (by decide) rfl rfl rfl (Nat.le_of_ble_eq_true rfl) ?_
            rintro rv h3 ⟨rfl, rfl⟩
            refine wp_ifne 62 dX11_atom_57 (by decide) (by unfold InR; omega) (fun c57 => ?_) (fun c57 => ?_)
            · exact absurd rfl c57
            · refine wp_iconst dX11_atom_60 ?_
              exact wp_iret dX11_atom_61 rfl (⟨⟨0, rfl, by unfold InR; omega, fun k9 v9 e9 => (by cases e9)⟩, fun e9 q9 => (by cases q9; exact he2), fun k9 v9 e9 => (by cases e9), kp2⟩)
          · have hr2 := hr2 k2 v2 hw
            have eb := pvP ppS hw
            have tx2 := tx.kp kp2
            have lb2 := lk_b tk eb.2
            have hz9 := hz
            have hz := hzv k2 v2 hw
            subst hz
            refine wp_aload_n dX11_atom_51 rfl ?_
            refine wp_bipush dX11_atom_52 rfl ?_
            refine wp_callV dX11_atom_54 mlX11_166 mvX11_takes (S_X11_takes tx2 tk hr2.2.1 eb.2 hr2.1 (by unfold InR; omega)) rfl rfl (by omega) (by decide) rfl rfl rfl (Nat.le_of_ble_eq_true rfl) ?_
            rintro rv h3 ⟨rfl, rfl⟩
            refine wp_ifneb 62 dX11_atom_57 (by decide) (fun c57 => ?_) (fun c57 => ?_)
            · refine wp_aload_n dX11_atom_62 rfl ?_
              refine wp_dup dX11_atom_63 rfl ?_
              refine wp_getI dX11_atom_64 flX11_134 rfl rfl ?_
              rw [if_pos c57, hI_10 (by decide), hr2.2.2, hI_10 (by decide), hI_same]
              refine wp_iconst dX11_atom_67 ?_
              refine wp_isub dX11_atom_68 ?_
              refine wp_putI dX11_atom_69 plX11_134 rfl rfl ?_
              refine wp_iload_n dX11_atom_72 rfl ?_
              exact wp_iret dX11_atom_73 rfl (by
              have hV : V = .inr (sk t k2 + 1, v2) := by rw [hV]; exact pvx_y hw c57
              subst hV
              exact ⟨⟨_, rfl, hz9, fun k9 v9 e9 => (by cases e9; rfl)⟩, fun e9 q9 => (by cases q9), fun k9 v9 e9 => (by cases e9; exact ⟨by rw [hI_sI, if_neg (by omega), hI_10 (by decide)]; exact hr2.1, by rw [hI_sI, if_neg (by omega), hI_same]; omega, by rw [hI_same, hd]; omega⟩), (kp2.tr kp10).tr kp12⟩)
            · refine wp_iconst dX11_atom_60 ?_
              exact wp_iret dX11_atom_61 rfl (by
              rw [if_neg c57]
              have hV : V = .inl (sk t k2) := by rw [hV]; exact pvx_n hw c57
              subst hV
              exact ⟨⟨0, rfl, by unfold InR; omega, fun k9 v9 e9 => (by cases e9)⟩, fun e9 q9 => (by cases q9; exact hI_same), fun k9 v9 e9 => (by cases e9), (kp2.tr kp10).tr kp11⟩)
        · exact absurd c41 (by decide)
  · rw [ix_gp] at c11
    have lin := lk_in tk hl (by omega : lk t i ≠ -1)
    have hV : V = pv (atF t (atS t e) i) := by rw [hV, atP_eq]
    unfold atF at hV
    refine wp_aload_n dX11_atom_14 rfl ?_
    refine wp_dup dX11_atom_15 rfl ?_
    refine wp_getI dX11_atom_16 flX11_122 rfl rfl ?_
    rw [hI_same]
    refine wp_iconst dX11_atom_19 ?_
    refine wp_iadd dX11_atom_20 ?_
    refine wp_putI dX11_atom_21 plX11_122 rfl rfl ?_
    rw [sI_sI, show ((sk t i : Nat) : Int) + 1 = ((sk t i + 1 : Nat) : Int) by omega]
    refine wp_aload_n dX11_atom_24 rfl ?_
    refine wp_getC dX11_atom_25 flX11_20 rfl rfl ?_
    refine wp_iload_n dX11_atom_28 rfl ?_
    refine wp_iald (n := 128) dX11_atom_29 rfl (by omega) (by omega) ?_
    have lt9 := (hlt.kp (kp10 (h := h) (v := ((sk t i + 1 : Nat) : Int)))) (lk t i) (by omega)
    rw [lt9.1]
    exact wp_iret dX11_atom_30 rfl (by
      rw [if_neg (by omega), if_pos c11] at hV
      subst hV
      exact ⟨⟨_, rfl, lt9.2, fun k9 v9 e9 => (by cases e9; rfl)⟩, fun e9 q9 => (by cases q9), fun k9 v9 e9 => (by cases e9; exact ⟨by rw [hI_10 (by decide)]; exact hf, hI_same, hI_10 (by decide)⟩), kp10⟩)

set_option maxRecDepth 20000 in
theorem S_X11_term0 {X : Cx} {e : Nat} (he6 : e ≤ 6) (hA : AtM X e) : TmM X e := by
  intro h t b B i ρ hp
  obtain ⟨tx, tk, hi, hl, hf, hd, hlt⟩ := hp
  have hp : PLm h t b B i (6 - e) ρ := ⟨tx, tk, hi, hl, hf, hd, hlt⟩
  have t160 := tk.1
  have lb := lk_b tk hl
  have sb := sk_b t hl
  obtain ⟨V, hV⟩ : ∃ V, V = pv (tmP t e i) := ⟨_, rfl⟩
  rw [← hV]
  have hV : V = pvB (pv (atP t e i)) (fun k v => lqF t J1 (fun _ => atP t e) 160 (sv 0 v0 v) k) := by rw [hV]; exact pv_lp t J1 (fun _ => atP t e) 160 none 0 v0 i
  refine spec_wp (Nat.le_of_ble_eq_true rfl) (by decide +kernel) ?_
  refine wp_loc [(0, .ref (adr X 47))] ⟨rfl, trivial⟩ ?_
  have KF : ∀ (h9 : Hp) (z e9 : Int) (ee : Nat), InR z → hI h9 47 11 = (ee : Int) → ee ≤ t.length → Kp SP h h9 → V = .inl ee → WP X mX11_term (3 * e + 7) 5 [(0, .ref (adr X 47)), (1, .int (iI z))] [] h9 (PMv h ρ V) := by
    intro h9 z e9 ee hz hf9 hee kp9 hV
    refine wp_aload_n dX11_term_5 rfl ?_
    refine wp_getI dX11_term_6 flX11_131 rfl rfl ?_
    rw [hf9]
    refine wp_iconst dX11_term_9 ?_
    refine wp_icmpne 94 dX11_term_10 (by decide) (by unfold InR; omega) (by unfold InR; omega) (fun c10 => ?_) (fun c10 => ?_)
    · refine wp_iload_n dX11_term_94 rfl ?_
      exact wp_iret dX11_term_95 rfl (by
    subst hV
    exact ⟨⟨z, rfl, hz, fun k9 v9 e9 => (by cases e9)⟩, fun e9 q9 => (by cases q9; exact hf9), fun k9 v9 e9 => (by cases e9), kp9⟩)
    · exact absurd c10 (by omega)
  have Lpr : ∀ (n k : Nat) (u : Vl) (z : Int) (h1 : Hp), t.length < n + k → k ≤ t.length → TXm h1 t b B → hI h1 47 10 = k → hI h1 47 11 = -1 → hI h1 47 12 = 6 - e → LTm h1 ρ → Kp SP h h1 → z = u ρ → InR z → V = lqF t J1 (fun _ => atP t e) n u k → WP X mX11_term (3 * e + 7) 5 [(0, .ref (adr X 47)), (1, .int (iI z))] [] h1 (PMv h ρ V) := by
    intro n
    induction n using Nat.strongRecOn with
    | ind n ihs =>
      intro k u z h1 hn hk tx1 hk1 hf1 hd1 hl1 kp1 hzu hz hV
      have ih : ∀ (k2 : Nat) (u : Vl) (z : Int) (h1 : Hp), k < k2 → k2 ≤ t.length → TXm h1 t b B → hI h1 47 10 = k2 → hI h1 47 11 = -1 → hI h1 47 12 = 6 - e → LTm h1 ρ → Kp SP h h1 → z = u ρ → InR z → V = lqF t J1 (fun _ => atP t e) (n - 1) u k2 → WP X mX11_term (3 * e + 7) 5 [(0, .ref (adr X 47)), (1, .int (iI z))] [] h1 (PMv h ρ V) := fun k2 u z h1 a1 a2 a3 a4 a5 a6 a7 a8 a9 a10 a11 => ihs (n - 1) (by omega) k2 u z h1 (by omega) a2 a3 a4 a5 a6 a7 a8 a9 a10 a11
      have lb1 := lk_b tk hk
      have sk1 := sk_b t hk
      unfold lqF at hV
      refine wp_aload_n dX11_term_5 rfl ?_
      refine wp_getI dX11_term_6 flX11_131 rfl rfl ?_
      rw [hf1]
      refine wp_iconst dX11_term_9 ?_
      refine wp_icmpne 94 dX11_term_10 (by decide) (by unfold InR; omega) (by unfold InR; omega) (fun c10 => ?_) (fun c10 => ?_)
      · exact absurd rfl c10
      · refine wp_aload_n dX11_term_13 rfl ?_
        refine wp_callV dX11_term_14 mlX11_141 mvX11_look (S_X11_look (i := k) (tx.kp kp1) tk hk1 hk) rfl rfl (by omega) (by decide) rfl rfl rfl (Nat.le_of_ble_eq_true rfl) ?_
        rintro rv h8 ⟨rfl, rfl⟩
        refine wp_bipush dX11_term_17 rfl ?_
        refine wp_icmpeq 31 dX11_term_19 (by decide) (by unfold InR; omega) (by unfold InR; omega) (fun c19 => ?_) (fun c19 => ?_)
        · refine wp_aload_n dX11_term_31 rfl ?_
          refine wp_callV dX11_term_32 mlX11_141 mvX11_look (S_X11_look (i := sk t k) ((tx.kp kp1).kp kp10) tk hI_same sk1.2) rfl rfl (by omega) (by decide) rfl rfl rfl (Nat.le_of_ble_eq_true rfl) ?_
          rintro rv h8 ⟨rfl, rfl⟩
          rw [lk_sk t hk, sk_sk t hk, sI_sI]
          refine wp_bipush dX11_term_35 rfl ?_
          refine wp_icmpne 44 dX11_term_37 (by decide) (by unfold InR; omega) (by unfold InR; omega) (fun c37 => ?_) (fun c37 => ?_)
          · exact absurd c19 c37
          · refine wp_iconst dX11_term_40 ?_
            refine wp_goto 45 dX11_term_41 (by decide) ?_
            have hsg : lk t k = 42 := by omega
            have lin := lk_in tk hk (by omega : lk t k ≠ -1)
            obtain ⟨n, rfl⟩ : ∃ q, n = q + 1 := ⟨n - 1, by omega⟩
            rw [if_pos (by rw [J1_t]; omega), hsg, pv_lp] at hV
            refine wp_istore_n dX11_term_45 (by decide) ?_
            refine wp_aload_n dX11_term_46 rfl ?_
            refine wp_dup dX11_term_47 rfl ?_
            refine wp_getI dX11_term_48 flX11_122 rfl rfl ?_
            rw [hI_same]
            refine wp_iconst dX11_term_51 ?_
            refine wp_iadd dX11_term_52 ?_
            refine wp_putI dX11_term_53 plX11_122 rfl rfl ?_
            rw [sI_sI, show ((sk t k : Nat) : Int) + 1 = ((sk t k + 1 : Nat) : Int) by omega]
            refine wp_aload_n dX11_term_56 rfl ?_
            refine wp_callV dX11_term_57 mlX11_173 mvX11_atom (hA (sI h1 47 10 ((sk t k + 1 : Nat) : Int)) t b B (sk t k + 1) ρ ⟨(tx.kp kp1).kp kp10, tk, hI_same, by omega, by rw [hI_10 (by decide)]; exact hf1, by rw [hI_10 (by decide)]; exact hd1, (hlt.kp kp1).kp kp10⟩) rfl rfl (by omega) (by decide) rfl rfl rfl (Nat.le_of_ble_eq_true rfl) ?_
            rintro rv h2 ⟨⟨z2, rfl, hz2, hzv⟩, he2, hr2, kp2a⟩
            have kp2 := (kp1.tr kp10).tr kp2a
            refine wp_i2lI dX11_term_60 hz2 ?_
            refine wp_lstore_n dX11_term_61 (by decide) ?_
            rcases pv_cs (pv (atP t e (sk t k + 1))) with ⟨e2, hw⟩ | ⟨k2, v2, hw⟩
            · have he2 := he2 e2 hw
              refine wp_iload_n dX11_term_62 rfl ?_
              refine wp_ifeq 73 dX11_term_63 (by decide) (by unfold InR; omega) (fun c63 => ?_) (fun c63 => ?_)
              · exact absurd c63 (by decide)
              · refine wp_iload_n dX11_term_66 rfl ?_
                refine wp_i2lI dX11_term_67 (by first | assumption | (unfold InR; omega)) ?_
                refine wp_lload_n dX11_term_68 rfl ?_
                refine wp_lmulI dX11_term_69 ?_
                refine wp_goto 87 dX11_term_70 (by decide) ?_
                refine wp_callSp dX11_term_87 mlX11_176 msX11_within (S_X11_within (mul_L hz hz2)) rfl rfl (by omega) (by decide) (Nat.le_of_ble_eq_true rfl) ?_
                refine wp_istore_n dX11_term_90 (by decide) ?_
                refine wp_goto 5 dX11_term_91 (by decide) ?_
                refine wp_loc [(0, .ref (adr X 47)), (1, .int (iI (bnd (z * z2))))] ⟨rfl, rfl, trivial⟩ ?_
                exact KF _ _ 0 e2 (bnd_R _) he2 (pvE (atP_pp tk e (i := sk t k + 1) (by omega)) hw) kp2 (by rw [hV, hw]; rfl)
            · refine wp_iload_n dX11_term_62 rfl ?_
              refine wp_ifeq 73 dX11_term_63 (by decide) (by unfold InR; omega) (fun c63 => ?_) (fun c63 => ?_)
              · exact absurd c63 (by decide)
              · refine wp_iload_n dX11_term_66 rfl ?_
                refine wp_i2lI dX11_term_67 (by first | assumption | (unfold InR; omega)) ?_
                refine wp_lload_n dX11_term_68 rfl ?_
                refine wp_lmulI dX11_term_69 ?_
                refine wp_goto 87 dX11_term_70 (by decide) ?_
                refine wp_callSp dX11_term_87 mlX11_176 msX11_within (S_X11_within (mul_L hz hz2)) rfl rfl (by omega) (by decide) (Nat.le_of_ble_eq_true rfl) ?_
                refine wp_istore_n dX11_term_90 (by decide) ?_
                refine wp_goto 5 dX11_term_91 (by decide) ?_
                refine wp_loc [(0, .ref (adr X 47)), (1, .int (iI (bnd (z * z2))))] ⟨rfl, rfl, trivial⟩ ?_
                exact ih k2 (fun ρ => jn 42 (u ρ) (v2 ρ)) _ h2 (by have := pvP (atP_pp tk e (i := sk t k + 1) (by omega)) hw; omega) (pvP (atP_pp tk e (i := sk t k + 1) (by omega)) hw).2 (tx.kp kp2) (hr2 k2 v2 hw).2.1 (hr2 k2 v2 hw).1 (by rw [(hr2 k2 v2 hw).2.2, hI_10 (by decide)]; exact hd1) (hlt.kp kp2) kp2 (by rw [hzv k2 v2 hw, hzu]; rfl) (bnd_R _) (by rw [hV, hw]; show lqF t J1 (fun _ => atP t e) n (sv 42 u v2) k2 = _; rfl)
        · refine wp_aload_n dX11_term_22 rfl ?_
          refine wp_callV dX11_term_23 mlX11_141 mvX11_look (S_X11_look (i := sk t k) ((tx.kp kp1).kp kp10) tk hI_same sk1.2) rfl rfl (by omega) (by decide) rfl rfl rfl (Nat.le_of_ble_eq_true rfl) ?_
          rintro rv h8 ⟨rfl, rfl⟩
          rw [lk_sk t hk, sk_sk t hk, sI_sI]
          refine wp_bipush dX11_term_26 rfl ?_
          refine wp_icmpne 94 dX11_term_28 (by decide) (by unfold InR; omega) (by unfold InR; omega) (fun c28 => ?_) (fun c28 => ?_)
          · refine wp_iload_n dX11_term_94 rfl ?_
            exact wp_iret dX11_term_95 rfl (by
  rw [if_neg (by rw [J1_t]; omega)] at hV
  subst hV
  exact ⟨⟨z, rfl, hz, fun k9 v9 e9 => (by cases e9; exact hzu)⟩, fun e9 q9 => (by cases q9), fun k9 v9 e9 => (by cases e9; exact ⟨by rw [hI_10 (by decide)]; exact hf1, hI_same, by rw [hI_10 (by decide), hd1, hd]⟩), kp1.tr kp10⟩)
          · refine wp_aload_n dX11_term_31 rfl ?_
            refine wp_callV dX11_term_32 mlX11_141 mvX11_look (S_X11_look (i := sk t k) ((tx.kp kp1).kp kp10) tk hI_same sk1.2) rfl rfl (by omega) (by decide) rfl rfl rfl (Nat.le_of_ble_eq_true rfl) ?_
            rintro rv h8 ⟨rfl, rfl⟩
            rw [lk_sk t hk, sk_sk t hk, sI_sI]
            refine wp_bipush dX11_term_35 rfl ?_
            refine wp_icmpne 44 dX11_term_37 (by decide) (by unfold InR; omega) (by unfold InR; omega) (fun c37 => ?_) (fun c37 => ?_)
            · refine wp_iconst dX11_term_44 ?_
              have hsg : lk t k = 47 := by omega
              have lin := lk_in tk hk (by omega : lk t k ≠ -1)
              obtain ⟨n, rfl⟩ : ∃ q, n = q + 1 := ⟨n - 1, by omega⟩
              rw [if_pos (by rw [J1_t]; omega), hsg, pv_lp] at hV
              refine wp_istore_n dX11_term_45 (by decide) ?_
              refine wp_aload_n dX11_term_46 rfl ?_
              refine wp_dup dX11_term_47 rfl ?_
              refine wp_getI dX11_term_48 flX11_122 rfl rfl ?_
              rw [hI_same]
              refine wp_iconst dX11_term_51 ?_
              refine wp_iadd dX11_term_52 ?_
              refine wp_putI dX11_term_53 plX11_122 rfl rfl ?_
              rw [sI_sI, show ((sk t k : Nat) : Int) + 1 = ((sk t k + 1 : Nat) : Int) by omega]
              refine wp_aload_n dX11_term_56 rfl ?_
              refine wp_callV dX11_term_57 mlX11_173 mvX11_atom (hA (sI h1 47 10 ((sk t k + 1 : Nat) : Int)) t b B (sk t k + 1) ρ ⟨(tx.kp kp1).kp kp10, tk, hI_same, by omega, by rw [hI_10 (by decide)]; exact hf1, by rw [hI_10 (by decide)]; exact hd1, (hlt.kp kp1).kp kp10⟩) rfl rfl (by omega) (by decide) rfl rfl rfl (Nat.le_of_ble_eq_true rfl) ?_
              rintro rv h2 ⟨⟨z2, rfl, hz2, hzv⟩, he2, hr2, kp2a⟩
              have kp2 := (kp1.tr kp10).tr kp2a
              refine wp_i2lI dX11_term_60 hz2 ?_
              refine wp_lstore_n dX11_term_61 (by decide) ?_
              rcases pv_cs (pv (atP t e (sk t k + 1))) with ⟨e2, hw⟩ | ⟨k2, v2, hw⟩
              · have he2 := he2 e2 hw
                refine wp_iload_n dX11_term_62 rfl ?_
                refine wp_ifeq 73 dX11_term_63 (by decide) (by unfold InR; omega) (fun c63 => ?_) (fun c63 => ?_)
                · refine wp_lload_n dX11_term_73 rfl ?_
                  refine wp_lconst (v := lI 0) dX11_term_74 rfl ?_
                  refine wp_lcmp dX11_term_75 ?_
                  refine wp_ifne 83 dX11_term_76 (by decide) (lcm_R _ _) (fun c76 => ?_) (fun c76 => ?_)
                  · have c76 : ¬ z2 = 0 := by have q := lcm_eq (a := z2) (b := 0) hz2.L (by unfold InL; omega); exact fun w => c76 (q.mpr w)
                    refine wp_iload_n dX11_term_83 rfl ?_
                    refine wp_i2lI dX11_term_84 (by first | assumption | (unfold InR; omega)) ?_
                    refine wp_lload_n dX11_term_85 rfl ?_
                    refine wp_ldiv dX11_term_86 (fun q => c76 ((lI_eq (b := 0) hz2.L (by unfold InL; omega)).mp q)) ?_
                    rw [lI_div hz.L hz2.L (tdiv_L hz hz2 c76)]
                    refine wp_callSp dX11_term_87 mlX11_176 msX11_within (S_X11_within (tdiv_L hz hz2 c76)) rfl rfl (by omega) (by decide) (Nat.le_of_ble_eq_true rfl) ?_
                    refine wp_istore_n dX11_term_90 (by decide) ?_
                    refine wp_goto 5 dX11_term_91 (by decide) ?_
                    refine wp_loc [(0, .ref (adr X 47)), (1, .int (iI (bnd (z.tdiv z2))))] ⟨rfl, rfl, trivial⟩ ?_
                    exact KF _ _ 0 e2 (bnd_R _) he2 (pvE (atP_pp tk e (i := sk t k + 1) (by omega)) hw) kp2 (by rw [hV, hw]; rfl)
                  · have c76 : z2 = 0 := by have q := lcm_eq (a := z2) (b := 0) hz2.L (by unfold InL; omega); exact q.mp (by omega)
                    refine wp_lconst (v := lI 0) dX11_term_79 rfl ?_
                    refine wp_goto 87 dX11_term_80 (by decide) ?_
                    refine wp_callSp dX11_term_87 mlX11_176 msX11_within (S_X11_within (by unfold InL; omega)) rfl rfl (by omega) (by decide) (Nat.le_of_ble_eq_true rfl) ?_
                    refine wp_istore_n dX11_term_90 (by decide) ?_
                    refine wp_goto 5 dX11_term_91 (by decide) ?_
                    refine wp_loc [(0, .ref (adr X 47)), (1, .int (iI (bnd 0)))] ⟨rfl, rfl, trivial⟩ ?_
                    exact KF _ _ 0 e2 (bnd_R _) he2 (pvE (atP_pp tk e (i := sk t k + 1) (by omega)) hw) kp2 (by rw [hV, hw]; rfl)
                · exact absurd rfl c63
              · refine wp_iload_n dX11_term_62 rfl ?_
                refine wp_ifeq 73 dX11_term_63 (by decide) (by unfold InR; omega) (fun c63 => ?_) (fun c63 => ?_)
                · refine wp_lload_n dX11_term_73 rfl ?_
                  refine wp_lconst (v := lI 0) dX11_term_74 rfl ?_
                  refine wp_lcmp dX11_term_75 ?_
                  refine wp_ifne 83 dX11_term_76 (by decide) (lcm_R _ _) (fun c76 => ?_) (fun c76 => ?_)
                  · have c76 : ¬ z2 = 0 := by have q := lcm_eq (a := z2) (b := 0) hz2.L (by unfold InL; omega); exact fun w => c76 (q.mpr w)
                    refine wp_iload_n dX11_term_83 rfl ?_
                    refine wp_i2lI dX11_term_84 (by first | assumption | (unfold InR; omega)) ?_
                    refine wp_lload_n dX11_term_85 rfl ?_
                    refine wp_ldiv dX11_term_86 (fun q => c76 ((lI_eq (b := 0) hz2.L (by unfold InL; omega)).mp q)) ?_
                    rw [lI_div hz.L hz2.L (tdiv_L hz hz2 c76)]
                    refine wp_callSp dX11_term_87 mlX11_176 msX11_within (S_X11_within (tdiv_L hz hz2 c76)) rfl rfl (by omega) (by decide) (Nat.le_of_ble_eq_true rfl) ?_
                    refine wp_istore_n dX11_term_90 (by decide) ?_
                    refine wp_goto 5 dX11_term_91 (by decide) ?_
                    refine wp_loc [(0, .ref (adr X 47)), (1, .int (iI (bnd (z.tdiv z2))))] ⟨rfl, rfl, trivial⟩ ?_
                    exact ih k2 (fun ρ => jn 47 (u ρ) (v2 ρ)) _ h2 (by have := pvP (atP_pp tk e (i := sk t k + 1) (by omega)) hw; omega) (pvP (atP_pp tk e (i := sk t k + 1) (by omega)) hw).2 (tx.kp kp2) (hr2 k2 v2 hw).2.1 (hr2 k2 v2 hw).1 (by rw [(hr2 k2 v2 hw).2.2, hI_10 (by decide)]; exact hd1) (hlt.kp kp2) kp2 (by rw [← hzu, ← hzv k2 v2 hw]; show bnd _ = jn 47 z z2; unfold jn; rw [if_neg (by decide), if_neg (by decide), if_neg (by decide), if_pos rfl, if_neg c76]) (bnd_R _) (by rw [hV, hw]; show lqF t J1 (fun _ => atP t e) n (sv 47 u v2) k2 = _; rfl)
                  · have c76 : z2 = 0 := by have q := lcm_eq (a := z2) (b := 0) hz2.L (by unfold InL; omega); exact q.mp (by omega)
                    refine wp_lconst (v := lI 0) dX11_term_79 rfl ?_
                    refine wp_goto 87 dX11_term_80 (by decide) ?_
                    refine wp_callSp dX11_term_87 mlX11_176 msX11_within (S_X11_within (by unfold InL; omega)) rfl rfl (by omega) (by decide) (Nat.le_of_ble_eq_true rfl) ?_
                    refine wp_istore_n dX11_term_90 (by decide) ?_
                    refine wp_goto 5 dX11_term_91 (by decide) ?_
                    refine wp_loc [(0, .ref (adr X 47)), (1, .int (iI (bnd 0)))] ⟨rfl, rfl, trivial⟩ ?_
                    exact ih k2 (fun ρ => jn 47 (u ρ) (v2 ρ)) _ h2 (by have := pvP (atP_pp tk e (i := sk t k + 1) (by omega)) hw; omega) (pvP (atP_pp tk e (i := sk t k + 1) (by omega)) hw).2 (tx.kp kp2) (hr2 k2 v2 hw).2.1 (hr2 k2 v2 hw).1 (by rw [(hr2 k2 v2 hw).2.2, hI_10 (by decide)]; exact hd1) (hlt.kp kp2) kp2 (by rw [← hzu, ← hzv k2 v2 hw]; show bnd _ = jn 47 z z2; unfold jn; rw [if_neg (by decide), if_neg (by decide), if_neg (by decide), if_pos rfl, if_pos c76]; rfl) (bnd_R _) (by rw [hV, hw]; show lqF t J1 (fun _ => atP t e) n (sv 47 u v2) k2 = _; rfl)
                · exact absurd rfl c63
            · exact absurd c28 (by omega)
  refine wp_aload_n dX11_term_0 rfl ?_
  refine wp_callV dX11_term_1 mlX11_173 mvX11_atom (hA h t b B i ρ hp) rfl rfl (by omega) (by decide) rfl rfl rfl (Nat.le_of_ble_eq_true rfl) ?_
  rintro rv h1 ⟨⟨z, rfl, hz, hzv⟩, he1, hr1, kp1⟩
  refine wp_istore_n dX11_term_4 (by decide) ?_
  rcases pv_cs (pv (atP t e i)) with ⟨e2, hw⟩ | ⟨k2, v2, hw⟩
  · have he1 := he1 e2 hw
    refine wp_loc [(0, .ref (adr X 47)), (1, .int (iI z))] ⟨rfl, rfl, trivial⟩ ?_
    exact KF h1 z 0 e2 hz he1 (pvE (atP_pp tk e hl) hw) kp1 (by rw [hV, hw]; rfl)
  · have hr1 := hr1 k2 v2 hw
    have eb := pvP (atP_pp tk e hl) hw
    refine wp_loc [(0, .ref (adr X 47)), (1, .int (iI z))] ⟨rfl, rfl, trivial⟩ ?_
    exact Lpr 160 k2 v2 z h1 (by omega) eb.2 (tx.kp kp1) hr1.2.1 hr1.1 (by rw [hr1.2.2]; exact hd) (hlt.kp kp1) kp1 (hzv k2 v2 hw) hz (by rw [hV, hw]; rfl)

theorem tmP_pp {t : List Int} (k : TOK t) (e : Nat) {i : Nat} (hi : i ≤ t.length) : PP t i 0 (tmP t e i) := lpF_pp k rfl (fun f i hi => atP_pp k e hi) 161 none 0 v0 i hi
set_option maxRecDepth 20000 in
theorem S_X11_sum0 {X : Cx} {e : Nat} (he6 : e ≤ 6) (hA : TmM X e) : SmM X e := by
  intro h t b B i ρ hp
  obtain ⟨tx, tk, hi, hl, hf, hd, hlt⟩ := hp
  have hp : PLm h t b B i (6 - e) ρ := ⟨tx, tk, hi, hl, hf, hd, hlt⟩
  have t160 := tk.1
  have lb := lk_b tk hl
  have sb := sk_b t hl
  obtain ⟨V, hV⟩ : ∃ V, V = pv (smP t e i) := ⟨_, rfl⟩
  rw [← hV]
  have hV : V = pvB (pv (tmP t e i)) (fun k v => lqF t J2 (fun _ => tmP t e) 160 (sv 0 v0 v) k) := by rw [hV, smP_eq]; exact pv_lp t J2 (fun _ => tmP t e) 160 none 0 v0 i
  refine spec_wp (Nat.le_of_ble_eq_true rfl) (by decide +kernel) ?_
  refine wp_loc [(0, .ref (adr X 47))] ⟨rfl, trivial⟩ ?_
  have KF : ∀ (h9 : Hp) (z e9 : Int) (ee : Nat), InR z → hI h9 47 11 = (ee : Int) → ee ≤ t.length → Kp SP h h9 → V = .inl ee → WP X mX11_sum (3 * e + 8) 5 [(0, .ref (adr X 47)), (1, .int (iI z))] [] h9 (PMv h ρ V) := by
    intro h9 z e9 ee hz hf9 hee kp9 hV
    refine wp_aload_n dX11_sum_5 rfl ?_
    refine wp_getI dX11_sum_6 flX11_131 rfl rfl ?_
    rw [hf9]
    refine wp_iconst dX11_sum_9 ?_
    refine wp_icmpne 84 dX11_sum_10 (by decide) (by unfold InR; omega) (by unfold InR; omega) (fun c10 => ?_) (fun c10 => ?_)
    · refine wp_iload_n dX11_sum_84 rfl ?_
      exact wp_iret dX11_sum_85 rfl (by
    subst hV
    exact ⟨⟨z, rfl, hz, fun k9 v9 e9 => (by cases e9)⟩, fun e9 q9 => (by cases q9; exact hf9), fun k9 v9 e9 => (by cases e9), kp9⟩)
    · exact absurd c10 (by omega)
  have Lpr : ∀ (n k : Nat) (u : Vl) (z : Int) (h1 : Hp), t.length < n + k → k ≤ t.length → TXm h1 t b B → hI h1 47 10 = k → hI h1 47 11 = -1 → hI h1 47 12 = 6 - e → LTm h1 ρ → Kp SP h h1 → z = u ρ → InR z → V = lqF t J2 (fun _ => tmP t e) n u k → WP X mX11_sum (3 * e + 8) 5 [(0, .ref (adr X 47)), (1, .int (iI z))] [] h1 (PMv h ρ V) := by
    intro n
    induction n using Nat.strongRecOn with
    | ind n ihs =>
      intro k u z h1 hn hk tx1 hk1 hf1 hd1 hl1 kp1 hzu hz hV
      have ih : ∀ (k2 : Nat) (u : Vl) (z : Int) (h1 : Hp), k < k2 → k2 ≤ t.length → TXm h1 t b B → hI h1 47 10 = k2 → hI h1 47 11 = -1 → hI h1 47 12 = 6 - e → LTm h1 ρ → Kp SP h h1 → z = u ρ → InR z → V = lqF t J2 (fun _ => tmP t e) (n - 1) u k2 → WP X mX11_sum (3 * e + 8) 5 [(0, .ref (adr X 47)), (1, .int (iI z))] [] h1 (PMv h ρ V) := fun k2 u z h1 a1 a2 a3 a4 a5 a6 a7 a8 a9 a10 a11 => ihs (n - 1) (by omega) k2 u z h1 (by omega) a2 a3 a4 a5 a6 a7 a8 a9 a10 a11
      have lb1 := lk_b tk hk
      have sk1 := sk_b t hk
      unfold lqF at hV
      refine wp_aload_n dX11_sum_5 rfl ?_
      refine wp_getI dX11_sum_6 flX11_131 rfl rfl ?_
      rw [hf1]
      refine wp_iconst dX11_sum_9 ?_
      refine wp_icmpne 84 dX11_sum_10 (by decide) (by unfold InR; omega) (by unfold InR; omega) (fun c10 => ?_) (fun c10 => ?_)
      · exact absurd rfl c10
      · refine wp_aload_n dX11_sum_13 rfl ?_
        refine wp_callV dX11_sum_14 mlX11_141 mvX11_look (S_X11_look (i := k) (tx.kp kp1) tk hk1 hk) rfl rfl (by omega) (by decide) rfl rfl rfl (Nat.le_of_ble_eq_true rfl) ?_
        rintro rv h8 ⟨rfl, rfl⟩
        refine wp_bipush dX11_sum_17 rfl ?_
        refine wp_icmpeq 31 dX11_sum_19 (by decide) (by unfold InR; omega) (by unfold InR; omega) (fun c19 => ?_) (fun c19 => ?_)
        · refine wp_aload_n dX11_sum_31 rfl ?_
          refine wp_callV dX11_sum_32 mlX11_141 mvX11_look (S_X11_look (i := sk t k) ((tx.kp kp1).kp kp10) tk hI_same sk1.2) rfl rfl (by omega) (by decide) rfl rfl rfl (Nat.le_of_ble_eq_true rfl) ?_
          rintro rv h8 ⟨rfl, rfl⟩
          rw [lk_sk t hk, sk_sk t hk, sI_sI]
          refine wp_bipush dX11_sum_35 rfl ?_
          refine wp_icmpne 44 dX11_sum_37 (by decide) (by unfold InR; omega) (by unfold InR; omega) (fun c37 => ?_) (fun c37 => ?_)
          · exact absurd c19 c37
          · refine wp_iconst dX11_sum_40 ?_
            refine wp_goto 45 dX11_sum_41 (by decide) ?_
            have hsg : lk t k = 43 := by omega
            have lin := lk_in tk hk (by omega : lk t k ≠ -1)
            obtain ⟨n, rfl⟩ : ∃ q, n = q + 1 := ⟨n - 1, by omega⟩
            rw [if_pos (by rw [J2_t]; omega), hsg, pv_lp] at hV
            refine wp_istore_n dX11_sum_45 (by decide) ?_
            refine wp_aload_n dX11_sum_46 rfl ?_
            refine wp_dup dX11_sum_47 rfl ?_
            refine wp_getI dX11_sum_48 flX11_122 rfl rfl ?_
            rw [hI_same]
            refine wp_iconst dX11_sum_51 ?_
            refine wp_iadd dX11_sum_52 ?_
            refine wp_putI dX11_sum_53 plX11_122 rfl rfl ?_
            rw [sI_sI, show ((sk t k : Nat) : Int) + 1 = ((sk t k + 1 : Nat) : Int) by omega]
            refine wp_aload_n dX11_sum_56 rfl ?_
            refine wp_callV dX11_sum_57 mlX11_180 mvX11_term (hA (sI h1 47 10 ((sk t k + 1 : Nat) : Int)) t b B (sk t k + 1) ρ ⟨(tx.kp kp1).kp kp10, tk, hI_same, by omega, by rw [hI_10 (by decide)]; exact hf1, by rw [hI_10 (by decide)]; exact hd1, (hlt.kp kp1).kp kp10⟩) rfl rfl (by omega) (by decide) rfl rfl rfl (Nat.le_of_ble_eq_true rfl) ?_
            rintro rv h2 ⟨⟨z2, rfl, hz2, hzv⟩, he2, hr2, kp2a⟩
            have kp2 := (kp1.tr kp10).tr kp2a
            refine wp_i2lI dX11_sum_60 hz2 ?_
            refine wp_lstore_n dX11_sum_61 (by decide) ?_
            rcases pv_cs (pv (tmP t e (sk t k + 1))) with ⟨e2, hw⟩ | ⟨k2, v2, hw⟩
            · have he2 := he2 e2 hw
              refine wp_iload_n dX11_sum_62 rfl ?_
              refine wp_ifeq 73 dX11_sum_63 (by decide) (by unfold InR; omega) (fun c63 => ?_) (fun c63 => ?_)
              · exact absurd c63 (by decide)
              · refine wp_iload_n dX11_sum_66 rfl ?_
                refine wp_i2lI dX11_sum_67 (by first | assumption | (unfold InR; omega)) ?_
                refine wp_lload_n dX11_sum_68 rfl ?_
                refine wp_laddI dX11_sum_69 ?_
                refine wp_goto 77 dX11_sum_70 (by decide) ?_
                refine wp_callSp dX11_sum_77 mlX11_176 msX11_within (S_X11_within (by unfold InR at hz hz2; unfold InL; omega)) rfl rfl (by omega) (by decide) (Nat.le_of_ble_eq_true rfl) ?_
                refine wp_istore_n dX11_sum_80 (by decide) ?_
                refine wp_goto 5 dX11_sum_81 (by decide) ?_
                refine wp_loc [(0, .ref (adr X 47)), (1, .int (iI (bnd (z + z2))))] ⟨rfl, rfl, trivial⟩ ?_
                exact KF _ _ 0 e2 (bnd_R _) he2 (pvE (tmP_pp tk e (i := sk t k + 1) (by omega)) hw) kp2 (by rw [hV, hw]; rfl)
            · refine wp_iload_n dX11_sum_62 rfl ?_
              refine wp_ifeq 73 dX11_sum_63 (by decide) (by unfold InR; omega) (fun c63 => ?_) (fun c63 => ?_)
              · exact absurd c63 (by decide)
              · refine wp_iload_n dX11_sum_66 rfl ?_
                refine wp_i2lI dX11_sum_67 (by first | assumption | (unfold InR; omega)) ?_
                refine wp_lload_n dX11_sum_68 rfl ?_
                refine wp_laddI dX11_sum_69 ?_
                refine wp_goto 77 dX11_sum_70 (by decide) ?_
                refine wp_callSp dX11_sum_77 mlX11_176 msX11_within (S_X11_within (by unfold InR at hz hz2; unfold InL; omega)) rfl rfl (by omega) (by decide) (Nat.le_of_ble_eq_true rfl) ?_
                refine wp_istore_n dX11_sum_80 (by decide) ?_
                refine wp_goto 5 dX11_sum_81 (by decide) ?_
                refine wp_loc [(0, .ref (adr X 47)), (1, .int (iI (bnd (z + z2))))] ⟨rfl, rfl, trivial⟩ ?_
                exact ih k2 (fun ρ => jn 43 (u ρ) (v2 ρ)) _ h2 (by have := pvP (tmP_pp tk e (i := sk t k + 1) (by omega)) hw; omega) (pvP (tmP_pp tk e (i := sk t k + 1) (by omega)) hw).2 (tx.kp kp2) (hr2 k2 v2 hw).2.1 (hr2 k2 v2 hw).1 (by rw [(hr2 k2 v2 hw).2.2, hI_10 (by decide)]; exact hd1) (hlt.kp kp2) kp2 (by rw [hzv k2 v2 hw, hzu]; rfl) (bnd_R _) (by rw [hV, hw]; show lqF t J2 (fun _ => tmP t e) n (sv 43 u v2) k2 = _; rfl)
        · refine wp_aload_n dX11_sum_22 rfl ?_
          refine wp_callV dX11_sum_23 mlX11_141 mvX11_look (S_X11_look (i := sk t k) ((tx.kp kp1).kp kp10) tk hI_same sk1.2) rfl rfl (by omega) (by decide) rfl rfl rfl (Nat.le_of_ble_eq_true rfl) ?_
          rintro rv h8 ⟨rfl, rfl⟩
          rw [lk_sk t hk, sk_sk t hk, sI_sI]
          refine wp_bipush dX11_sum_26 rfl ?_
          refine wp_icmpne 84 dX11_sum_28 (by decide) (by unfold InR; omega) (by unfold InR; omega) (fun c28 => ?_) (fun c28 => ?_)
          · refine wp_iload_n dX11_sum_84 rfl ?_
            exact wp_iret dX11_sum_85 rfl (by
  rw [if_neg (by rw [J2_t]; omega)] at hV
  subst hV
  exact ⟨⟨z, rfl, hz, fun k9 v9 e9 => (by cases e9; exact hzu)⟩, fun e9 q9 => (by cases q9), fun k9 v9 e9 => (by cases e9; exact ⟨by rw [hI_10 (by decide)]; exact hf1, hI_same, by rw [hI_10 (by decide), hd1, hd]⟩), kp1.tr kp10⟩)
          · refine wp_aload_n dX11_sum_31 rfl ?_
            refine wp_callV dX11_sum_32 mlX11_141 mvX11_look (S_X11_look (i := sk t k) ((tx.kp kp1).kp kp10) tk hI_same sk1.2) rfl rfl (by omega) (by decide) rfl rfl rfl (Nat.le_of_ble_eq_true rfl) ?_
            rintro rv h8 ⟨rfl, rfl⟩
            rw [lk_sk t hk, sk_sk t hk, sI_sI]
            refine wp_bipush dX11_sum_35 rfl ?_
            refine wp_icmpne 44 dX11_sum_37 (by decide) (by unfold InR; omega) (by unfold InR; omega) (fun c37 => ?_) (fun c37 => ?_)
            · refine wp_iconst dX11_sum_44 ?_
              have hsg : lk t k = 45 := by omega
              have lin := lk_in tk hk (by omega : lk t k ≠ -1)
              obtain ⟨n, rfl⟩ : ∃ q, n = q + 1 := ⟨n - 1, by omega⟩
              rw [if_pos (by rw [J2_t]; omega), hsg, pv_lp] at hV
              refine wp_istore_n dX11_sum_45 (by decide) ?_
              refine wp_aload_n dX11_sum_46 rfl ?_
              refine wp_dup dX11_sum_47 rfl ?_
              refine wp_getI dX11_sum_48 flX11_122 rfl rfl ?_
              rw [hI_same]
              refine wp_iconst dX11_sum_51 ?_
              refine wp_iadd dX11_sum_52 ?_
              refine wp_putI dX11_sum_53 plX11_122 rfl rfl ?_
              rw [sI_sI, show ((sk t k : Nat) : Int) + 1 = ((sk t k + 1 : Nat) : Int) by omega]
              refine wp_aload_n dX11_sum_56 rfl ?_
              refine wp_callV dX11_sum_57 mlX11_180 mvX11_term (hA (sI h1 47 10 ((sk t k + 1 : Nat) : Int)) t b B (sk t k + 1) ρ ⟨(tx.kp kp1).kp kp10, tk, hI_same, by omega, by rw [hI_10 (by decide)]; exact hf1, by rw [hI_10 (by decide)]; exact hd1, (hlt.kp kp1).kp kp10⟩) rfl rfl (by omega) (by decide) rfl rfl rfl (Nat.le_of_ble_eq_true rfl) ?_
              rintro rv h2 ⟨⟨z2, rfl, hz2, hzv⟩, he2, hr2, kp2a⟩
              have kp2 := (kp1.tr kp10).tr kp2a
              refine wp_i2lI dX11_sum_60 hz2 ?_
              refine wp_lstore_n dX11_sum_61 (by decide) ?_
              rcases pv_cs (pv (tmP t e (sk t k + 1))) with ⟨e2, hw⟩ | ⟨k2, v2, hw⟩
              · have he2 := he2 e2 hw
                refine wp_iload_n dX11_sum_62 rfl ?_
                refine wp_ifeq 73 dX11_sum_63 (by decide) (by unfold InR; omega) (fun c63 => ?_) (fun c63 => ?_)
                · refine wp_iload_n dX11_sum_73 rfl ?_
                  refine wp_i2lI dX11_sum_74 (by first | assumption | (unfold InR; omega)) ?_
                  refine wp_lload_n dX11_sum_75 rfl ?_
                  refine wp_lsub dX11_sum_76 ?_
                  rw [lI_sub]
                  refine wp_callSp dX11_sum_77 mlX11_176 msX11_within (S_X11_within (by unfold InR at hz hz2; unfold InL; omega)) rfl rfl (by omega) (by decide) (Nat.le_of_ble_eq_true rfl) ?_
                  refine wp_istore_n dX11_sum_80 (by decide) ?_
                  refine wp_goto 5 dX11_sum_81 (by decide) ?_
                  refine wp_loc [(0, .ref (adr X 47)), (1, .int (iI (bnd (z - z2))))] ⟨rfl, rfl, trivial⟩ ?_
                  exact KF _ _ 0 e2 (bnd_R _) he2 (pvE (tmP_pp tk e (i := sk t k + 1) (by omega)) hw) kp2 (by rw [hV, hw]; rfl)
                · exact absurd rfl c63
              · refine wp_iload_n dX11_sum_62 rfl ?_
                refine wp_ifeq 73 dX11_sum_63 (by decide) (by unfold InR; omega) (fun c63 => ?_) (fun c63 => ?_)
                · refine wp_iload_n dX11_sum_73 rfl ?_
                  refine wp_i2lI dX11_sum_74 (by first | assumption | (unfold InR; omega)) ?_
                  refine wp_lload_n dX11_sum_75 rfl ?_
                  refine wp_lsub dX11_sum_76 ?_
                  rw [lI_sub]
                  refine wp_callSp dX11_sum_77 mlX11_176 msX11_within (S_X11_within (by unfold InR at hz hz2; unfold InL; omega)) rfl rfl (by omega) (by decide) (Nat.le_of_ble_eq_true rfl) ?_
                  refine wp_istore_n dX11_sum_80 (by decide) ?_
                  refine wp_goto 5 dX11_sum_81 (by decide) ?_
                  refine wp_loc [(0, .ref (adr X 47)), (1, .int (iI (bnd (z - z2))))] ⟨rfl, rfl, trivial⟩ ?_
                  exact ih k2 (fun ρ => jn 45 (u ρ) (v2 ρ)) _ h2 (by have := pvP (tmP_pp tk e (i := sk t k + 1) (by omega)) hw; omega) (pvP (tmP_pp tk e (i := sk t k + 1) (by omega)) hw).2 (tx.kp kp2) (hr2 k2 v2 hw).2.1 (hr2 k2 v2 hw).1 (by rw [(hr2 k2 v2 hw).2.2, hI_10 (by decide)]; exact hd1) (hlt.kp kp2) kp2 (by rw [hzv k2 v2 hw, hzu]; rfl) (bnd_R _) (by rw [hV, hw]; show lqF t J2 (fun _ => tmP t e) n (sv 45 u v2) k2 = _; rfl)
                · exact absurd rfl c63
            · exact absurd c28 (by omega)
  refine wp_aload_n dX11_sum_0 rfl ?_
  refine wp_callV dX11_sum_1 mlX11_180 mvX11_term (hA h t b B i ρ hp) rfl rfl (by omega) (by decide) rfl rfl rfl (Nat.le_of_ble_eq_true rfl) ?_
  rintro rv h1 ⟨⟨z, rfl, hz, hzv⟩, he1, hr1, kp1⟩
  refine wp_istore_n dX11_sum_4 (by decide) ?_
  rcases pv_cs (pv (tmP t e i)) with ⟨e2, hw⟩ | ⟨k2, v2, hw⟩
  · have he1 := he1 e2 hw
    refine wp_loc [(0, .ref (adr X 47)), (1, .int (iI z))] ⟨rfl, rfl, trivial⟩ ?_
    exact KF h1 z 0 e2 hz he1 (pvE (tmP_pp tk e hl) hw) kp1 (by rw [hV, hw]; rfl)
  · have hr1 := hr1 k2 v2 hw
    have eb := pvP (tmP_pp tk e hl) hw
    refine wp_loc [(0, .ref (adr X 47)), (1, .int (iI z))] ⟨rfl, rfl, trivial⟩ ?_
    exact Lpr 160 k2 v2 z h1 (by omega) eb.2 (tx.kp kp1) hr1.2.1 hr1.1 (by rw [hr1.2.2]; exact hd) (hlt.kp kp1) kp1 (hzv k2 v2 hw) hz (by rw [hV, hw]; rfl)

theorem S_X11_sum {X : Cx} : ∀ (e : Nat), e ≤ 6 → SmM X e
  | 0, h => S_X11_sum0 h (S_X11_term0 h (S_X11_atom h (fun e1 q => by omega)))
  | e + 1, h => S_X11_sum0 h (S_X11_term0 h (S_X11_atom h (fun e1 q => by obtain rfl : e = e1 := (by omega); exact S_X11_sum e (by omega))))

