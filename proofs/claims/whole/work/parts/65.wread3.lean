/-! the WISH is read: UNIT -/
theorem atP_sk (t : List Int) (e : Nat) {i : Nat} (h : i ≤ t.length) : atP t e (sk t i) = atP t e i := by rw [atP_eq, atP_eq]; unfold atF; rw [lk_sk t h, sk_sk t h]
theorem tmP_sk (t : List Int) (e : Nat) {i : Nat} (h : i ≤ t.length) : tmP t e (sk t i) = tmP t e i := by
  show prB (atP t e (sk t i)) _ = prB (atP t e i) _
  rw [atP_sk t e h]
theorem smP_sk (t : List Int) (e : Nat) {i : Nat} (h : i ≤ t.length) : smP t e (sk t i) = smP t e i := by
  rw [smP_eq]
  show prB (tmP t e (sk t i)) _ = prB (tmP t e i) _
  rw [tmP_sk t e h]
theorem cmF_sk (t : List Int) (S : Nat → PR) (c : List Int) (u : Vl) {i : Nat} (h : i ≤ t.length) : cmF t S (sk t i) c u = cmF t S i c u := by unfold cmF; rw [lk_sk t h, sk_sk t h]
def unS (t : List Int) (e : Nat) : Option ((Nat → PR) × (Nat → PR)) := match e with
  | 0 => none
  | e + 1 => some (unP t e none, cdP t e none)
theorem unP_eq (t : List Int) (e : Nat) (f : Option Vl) (i : Nat) : unP t e f i = unF t (smP t e) (unS t e) f i := by cases e <;> rfl
theorem unP_sk (t : List Int) (e : Nat) (f : Option Vl) {i : Nat} (h : i ≤ t.length) : unP t e f (sk t i) = unP t e f i := by
  rw [unP_eq, unP_eq]
  unfold unF
  cases f with
  | none => dsimp only; rw [lk_sk t h, sk_sk t h, smP_sk t e h]
  | some u => exact cmF_sk t _ _ _ h
theorem trP_sk (t : List Int) (e : Nat) (f : Option Vl) {i : Nat} (h : i ≤ t.length) : trP t e f (sk t i) = trP t e f i := by
  show prB (unP t e f (sk t i)) _ = prB (unP t e f i) _
  rw [unP_sk t e f h]
theorem cdP_sk (t : List Int) (e : Nat) (f : Option Vl) {i : Nat} (h : i ≤ t.length) : cdP t e f (sk t i) = cdP t e f i := by
  show prB (trP t e f (sk t i)) _ = prB (trP t e f i) _
  rw [trP_sk t e f h]
theorem unF_n {t : List Int} {S : Nat → PR} {UC : Option ((Nat → PR) × (Nat → PR))} {i : Nat} (h1 : ¬ lk t i = 33) (h2 : ¬ lk t i = 40) : unF t S UC none i = prB (S i) (cmF t S) := by unfold unF; dsimp only; rw [if_neg h1, if_neg h2]
theorem unF_b {t : List Int} {S : Nat → PR} {q : (Nat → PR) × (Nat → PR)} {i : Nat} (h2 : lk t i = 40) : unF t S (some q) none i = prB (q.2 (sk t i + 1)) (prX t 41) := by unfold unF; dsimp only; rw [if_neg (by omega), if_pos h2]
theorem unF_x {t : List Int} {S : Nat → PR} {q : (Nat → PR) × (Nat → PR)} {i : Nat} (h2 : lk t i = 33) : unF t S (some q) none i = prB (q.1 (sk t i + 1)) (fun k c v => .inr (k, c ++ [-33], ntV v)) := by unfold unF; dsimp only; rw [if_pos h2]
theorem unF_0 {t : List Int} {S : Nat → PR} {i : Nat} (h2 : lk t i = 33 ∨ lk t i = 40) : unF t S none none i = .inl (sk t i) := by unfold unF; dsimp only; split; rfl; rw [if_pos (by omega)]

set_option maxRecDepth 20000 in
theorem S_X9_unit0 {X : Cx} {e : Nat} (he6 : e ≤ 6) (hS : SmC X e) (hU : ∀ e1, e = e1 + 1 → UnC X e1) (hC : ∀ e1, e = e1 + 1 → CdC X e1) : UnC X e := by
  intro h t w i f hrp
  obtain ⟨tp, tk, hi, hi1, hl, cw, hwl⟩ := hrp
  have t160 := tk.1
  have lb := lk_b tk hl
  have sb := sk_b t hl
  obtain ⟨V, hV⟩ : ∃ V, V = unP t e f i := ⟨_, rfl⟩
  rw [← hV]
  refine spec_wp (Nat.le_of_ble_eq_true rfl) (by decide +kernel) ?_
  refine wp_loc [(0, .ref (adr X 5)), (1, .ref (adr X 1)), (2, .int (iI (6 - e))), (3, .int (iI (b2i (f.isSome = true))))] ⟨rfl, rfl, rfl, rfl, trivial⟩ ?_
  have K113 : ∀ (h3 : Hp) (k : Nat) (c : List Int) (u : Vl), TPh h3 t → hI h3 1 2 = k → k ≤ t.length → i ≤ k → c.length ≤ k - i → CW h3 (w ++ c) → Kp SW h h3 → V = cmF t (smP t e) k c u → WP X mX9_unit (2 * e + 4) 113 [(0, .ref (adr X 5)), (1, .ref (adr X 1)), (2, .int (iI (6 - e)))] [] h3 (PQ h w V) := by
    intro h3 k c u tp3 at3 hk hik hcl cw3 kp3 hV
    have lb3 := lk_b tk hk
    have sb3 := sk_b t hk
    have hwc : (w ++ c).length = w.length + c.length := List.length_append
    unfold cmF at hV
    refine wp_aload_n dX9_unit_113 rfl ?_
    refine wp_callV dX9_unit_114 mlX9_32 mvX7_sign (S_X7_sign (i := k) tp3 tk at3 hk) rfl rfl (by omega) (by decide) rfl rfl rfl (Nat.le_of_ble_eq_true rfl) ?_
    rintro rv h4 ⟨rfl, rfl⟩
    refine wp_istore dX9_unit_117 (by decide) ?_
    refine wp_iload dX9_unit_119 rfl ?_
    refine wp_callSp dX9_unit_121 mlX9_40 msX9_isComparing (S_X9_isComparing (by unfold InR; omega)) rfl rfl (by omega) (by decide) (Nat.le_of_ble_eq_true rfl) ?_
    refine wp_ifneb 129 dX9_unit_124 (by decide) (fun c124 => ?_) (fun c124 => ?_)
    · rw [if_pos c124] at hV
      have lin := lk_in tk hk (by omega : lk t k ≠ -1)
      refine wp_aload_n dX9_unit_129 rfl ?_
      refine wp_dup dX9_unit_130 rfl ?_
      refine wp_getI dX9_unit_131 flX9_21 rfl rfl ?_
      rw [hI_same]
      refine wp_iconst dX9_unit_134 ?_
      refine wp_iadd dX9_unit_135 ?_
      refine wp_putI dX9_unit_136 plX9_21 rfl rfl ?_
      rw [sI_sI]
      refine wp_aload_n dX9_unit_139 rfl ?_
      refine wp_aload_n dX9_unit_140 rfl ?_
      refine wp_iload_n dX9_unit_141 rfl ?_
      refine wp_callV dX9_unit_142 mlX9_36 mvX9_sum (hS _ t (w ++ c) (sk t k + 1) ⟨tp3.at, tk, by rw [hI_same]; omega, by omega, by omega, cw3.at, by omega⟩) rfl rfl (by omega) (by decide) rfl rfl rfl (Nat.le_of_ble_eq_true rfl) ?_
      rintro rv h5 ⟨rfl, at5, cw5, kp5⟩
      refine wp_ifneb 150 dX9_unit_145 (by decide) (fun c145 => ?_) (fun c145 => ?_)
      · obtain ⟨k2, z, hk2⟩ := isR_ok c145
        obtain ⟨c2, v2⟩ := z
        have pp := (smP_pp tk e (sk t k + 1) (by omega)).r hk2
        have cw5 := cw5 _ _ _ hk2
        rw [hk2] at hV at5
        have at5 : hI h5 1 2 = ((k2 : Nat) : Int) := at5
        rw [prB_inr] at hV
        refine wp_aload_n dX9_unit_150 rfl ?_
        refine wp_iload dX9_unit_151 rfl ?_
        refine wp_ineg dX9_unit_153 ?_
        refine wp_callVv dX9_unit_154 mlX9_45 mvX9_put (S_X9_put cw5 (by rw [List.length_append]; omega)) rfl rfl (by omega) (by decide) rfl rfl rfl (Nat.le_of_ble_eq_true rfl) ?_
        refine wp_iconst dX9_unit_157 ?_
        exact wp_zret dX9_unit_158 rfl (by omega) (by
  subst hV
  exact ⟨rfl, by rw [ptH_at]; exact at5, fun k9 c9 v9 e9 => (by cases e9; have q := cw5.put (-lk t k); simp only [List.append_assoc] at q ⊢; exact q), ((kp3.tr kpAt).tr kp5).tr Kp.pt⟩)
      · refine wp_iconst dX9_unit_148 ?_
        exact wp_zret dX9_unit_149 rfl (by omega) (by
  obtain ⟨e2, hk2⟩ := isR_no c145
  rw [hk2] at hV at5
  rw [prB_inl] at hV
  subst hV
  exact ⟨rfl, at5, fun k9 c9 v9 e9 => (by cases e9), (kp3.tr kpAt).tr kp5⟩)
    · refine wp_iconst dX9_unit_127 ?_
      exact wp_zret dX9_unit_128 rfl (by omega) (by
  rw [if_neg c124] at hV
  subst hV
  exact ⟨rfl, hI_same, fun k9 c9 v9 e9 => (by cases e9), kp3.tr kpAt⟩)
  refine wp_aload_n dX9_unit_0 rfl ?_
  refine wp_callV dX9_unit_1 mlX9_32 mvX7_sign (S_X7_sign tp tk hi hl) rfl rfl (by omega) (by decide) rfl rfl rfl (Nat.le_of_ble_eq_true rfl) ?_
  rintro rv h1 ⟨rfl, rfl⟩
  refine wp_istore dX9_unit_4 (by decide) ?_
  refine wp_iload_n dX9_unit_6 rfl ?_
  refine wp_ifneb 98 dX9_unit_7 (by decide) (fun c7 => ?_) (fun c7 => ?_)
  · obtain ⟨u, rfl⟩ : ∃ u, f = some u := Option.isSome_iff_exists.mp c7
    have hV : V = cmF t (smP t e) (sk t i) [] u := by rw [hV, unP_eq, cmF_sk t _ _ _ hl]; rfl
    refine wp_iload_n dX9_unit_98 rfl ?_
    refine wp_ifneb 113 dX9_unit_99 (by decide) (fun c99 => ?_) (fun c99 => ?_)
    · refine wp_loc [(0, .ref (adr X 5)), (1, .ref (adr X 1)), (2, .int (iI (6 - e)))] ⟨rfl, rfl, rfl, trivial⟩ ?_
      exact K113 _ (sk t i) [] u tp.at hI_same sb.2 sb.1 (by rw [List.length_nil]; omega) (by rw [List.append_nil]; exact cw.at) kpAt hV
    · exact absurd rfl c99
  · refine wp_iload dX9_unit_10 rfl ?_
    refine wp_bipush dX9_unit_12 rfl ?_
    refine wp_icmpeq 24 dX9_unit_14 (by decide) (by unfold InR; omega) (by unfold InR; omega) (fun c14 => ?_) (fun c14 => ?_)
    · obtain rfl : f = none := by cases f with
        | none => rfl
        | some u => exact absurd rfl c7
      have lin := lk_in tk hl (by omega : lk t i ≠ -1)
      refine wp_iload_n dX9_unit_24 rfl ?_
      refine wp_bipush dX9_unit_25 rfl ?_
      refine wp_icmplt 32 dX9_unit_27 (by decide) (by unfold InR; omega) (by unfold InR; omega) (fun c27 => ?_) (fun c27 => ?_)
      · obtain ⟨e1, rfl⟩ : ∃ e1, e = e1 + 1 := ⟨e - 1, by omega⟩
        refine wp_aload_n dX9_unit_32 rfl ?_
        refine wp_dup dX9_unit_33 rfl ?_
        refine wp_getI dX9_unit_34 flX9_21 rfl rfl ?_
        rw [hI_same]
        refine wp_iconst dX9_unit_37 ?_
        refine wp_iadd dX9_unit_38 ?_
        refine wp_putI dX9_unit_39 plX9_21 rfl rfl ?_
        rw [sI_sI]
        refine wp_iload dX9_unit_42 rfl ?_
        refine wp_bipush dX9_unit_44 rfl ?_
        refine wp_icmpne 76 dX9_unit_46 (by decide) (by unfold InR; omega) (by unfold InR; omega) (fun c46 => ?_) (fun c46 => ?_)
        · have c33 : lk t i = 33 := by omega
          rw [unP_eq] at hV
          have hV : V = prB (unP t e1 none (sk t i + 1)) (fun k c v => .inr (k, c ++ [-33], ntV v)) := by rw [hV]; exact unF_x c33
          refine wp_aload_n dX9_unit_76 rfl ?_
          refine wp_aload_n dX9_unit_77 rfl ?_
          refine wp_iload_n dX9_unit_78 rfl ?_
          refine wp_iconst dX9_unit_79 ?_
          refine wp_iadd dX9_unit_80 ?_
          rw [show (6 - ((e1 + 1 : Nat) : Int)) + 1 = 6 - (e1 : Int) by omega]
          refine wp_iconst dX9_unit_81 ?_
          refine wp_callV dX9_unit_82 mlX9_53 mvX9_unit (hU e1 rfl _ t w (sk t i + 1) none ⟨tp.at, tk, by rw [hI_same]; omega, by omega, by omega, cw.at, by omega⟩) rfl rfl (by omega) (by decide) rfl rfl rfl (Nat.le_of_ble_eq_true rfl) ?_
          rintro rv h2 ⟨rfl, at2, cw2, kp2⟩
          have pp := unP_pp tk e1 none (sk t i + 1) (by omega)
          refine wp_ifneb 90 dX9_unit_85 (by decide) (fun c85 => ?_) (fun c85 => ?_)
          · obtain ⟨k, z, hk⟩ := isR_ok c85
            obtain ⟨c, v⟩ := z
            have pp2 := pp.r hk
            have cw2 := cw2 _ _ _ hk
            rw [hk] at hV at2
            have at2 : hI h2 1 2 = ((k : Nat) : Int) := at2
            rw [prB_inr] at hV
            refine wp_aload_n dX9_unit_90 rfl ?_
            refine wp_bipush dX9_unit_91 rfl ?_
            refine wp_callVv dX9_unit_93 mlX9_45 mvX9_put (S_X9_put cw2 (by rw [List.length_append]; omega)) rfl rfl (by omega) (by decide) rfl rfl rfl (Nat.le_of_ble_eq_true rfl) ?_
            refine wp_iconst dX9_unit_96 ?_
            exact wp_zret dX9_unit_97 rfl (by omega) (by
          subst hV
          exact ⟨rfl, by rw [ptH_at]; exact at2, fun k9 c9 v9 e9 => (by cases e9; have q := cw2.put (-33); simp only [List.append_assoc] at q ⊢; exact q), (kpAt.tr kp2).tr Kp.pt⟩)
          · refine wp_iconst dX9_unit_88 ?_
            exact wp_zret dX9_unit_89 rfl (by omega) (by
          obtain ⟨e2, hk⟩ := isR_no c85
          rw [hk] at hV at2
          rw [prB_inl] at hV
          subst hV
          exact ⟨rfl, at2, fun k9 c9 v9 e9 => (by cases e9), kpAt.tr kp2⟩)
        · rw [unP_eq] at hV
          have hV : V = prB (cdP t e1 none (sk t i + 1)) (prX t 41) := by rw [hV]; exact unF_b c46
          refine wp_aload_n dX9_unit_49 rfl ?_
          refine wp_aload_n dX9_unit_50 rfl ?_
          refine wp_iload_n dX9_unit_51 rfl ?_
          refine wp_iconst dX9_unit_52 ?_
          refine wp_iadd dX9_unit_53 ?_
          rw [show (6 - ((e1 + 1 : Nat) : Int)) + 1 = 6 - (e1 : Int) by omega]
          refine wp_iconst dX9_unit_54 ?_
          refine wp_callV dX9_unit_55 mlX9_49 mvX9_condition (hC e1 rfl _ t w (sk t i + 1) none ⟨tp.at, tk, by rw [hI_same]; omega, by omega, by omega, cw.at, by omega⟩) rfl rfl (by omega) (by decide) rfl rfl rfl (Nat.le_of_ble_eq_true rfl) ?_
          rintro rv h2 ⟨rfl, at2, cw2, kp2⟩
          have pp := cdP_pp tk e1 none (i := sk t i + 1) (by omega)
          refine wp_ifeqb 74 dX9_unit_58 (by decide) (fun c58 => ?_) (fun c58 => ?_)
          · refine wp_iconst dX9_unit_74 ?_
            exact wp_zret dX9_unit_75 rfl (by omega) (by
          first
          | (rw [if_pos c67] at hV
             subst hV
             exact ⟨rfl, by rw [hI_same, if_pos c67]; show ((sk t k : Nat) : Int) + 1 = ((sk t k + 1 : Nat) : Int); omega, fun k9 c9 v9 e9 => (by cases e9; exact (cw2 _ _ _ hk).at), (kpAt.tr kp2).tr kpAt⟩)
          | (rw [if_neg c67] at hV
             subst hV
             exact ⟨rfl, by rw [hI_same, if_neg c67]; rfl, fun k9 c9 v9 e9 => (by cases e9), (kpAt.tr kp2).tr kpAt⟩)
          | (obtain ⟨e2, hk⟩ := isR_no c58
             rw [hk] at hV at2
             rw [prB_inl] at hV
             subst hV
             exact ⟨rfl, at2, fun k9 c9 v9 e9 => (by cases e9), kpAt.tr kp2⟩))
          · obtain ⟨k, z, hk⟩ := isR_ok c58
            obtain ⟨c, v⟩ := z
            have pp2 := pp.r hk
            rw [hk] at hV at2
            have at2 : hI h2 1 2 = ((k : Nat) : Int) := at2
            rw [prB_inr] at hV
            unfold prX at hV
            refine wp_aload_n dX9_unit_61 rfl ?_
            refine wp_bipush dX9_unit_62 rfl ?_
            refine wp_callV dX9_unit_64 mlX9_28 mvX7_pass (S_X7_pass (i := k) (tp.at.sw kp2) tk at2 pp2.2.1 (by unfold InR; omega)) rfl rfl (by omega) (by decide) rfl rfl rfl (Nat.le_of_ble_eq_true rfl) ?_
            rintro rv h3 ⟨rfl, rfl⟩
            refine wp_ifeqb 74 dX9_unit_67 (by decide) (fun c67 => ?_) (fun c67 => ?_)
            · refine wp_iconst dX9_unit_74 ?_
              exact wp_zret dX9_unit_75 rfl (by omega) (by
          first
          | (rw [if_pos c67] at hV
             subst hV
             exact ⟨rfl, by rw [hI_same, if_pos c67]; show ((sk t k : Nat) : Int) + 1 = ((sk t k + 1 : Nat) : Int); omega, fun k9 c9 v9 e9 => (by cases e9; exact (cw2 _ _ _ hk).at), (kpAt.tr kp2).tr kpAt⟩)
          | (rw [if_neg c67] at hV
             subst hV
             exact ⟨rfl, by rw [hI_same, if_neg c67]; rfl, fun k9 c9 v9 e9 => (by cases e9), (kpAt.tr kp2).tr kpAt⟩)
          | (obtain ⟨e2, hk⟩ := isR_no c58
             rw [hk] at hV at2
             rw [prB_inl] at hV
             subst hV
             exact ⟨rfl, at2, fun k9 c9 v9 e9 => (by cases e9), kpAt.tr kp2⟩))
            · refine wp_iconst dX9_unit_70 ?_
              refine wp_goto 75 dX9_unit_71 (by decide) ?_
              exact wp_zret dX9_unit_75 rfl (by omega) (by
          first
          | (rw [if_pos c67] at hV
             subst hV
             exact ⟨rfl, by rw [hI_same, if_pos c67]; show ((sk t k : Nat) : Int) + 1 = ((sk t k + 1 : Nat) : Int); omega, fun k9 c9 v9 e9 => (by cases e9; exact (cw2 _ _ _ hk).at), (kpAt.tr kp2).tr kpAt⟩)
          | (rw [if_neg c67] at hV
             subst hV
             exact ⟨rfl, by rw [hI_same, if_neg c67]; rfl, fun k9 c9 v9 e9 => (by cases e9), (kpAt.tr kp2).tr kpAt⟩)
          | (obtain ⟨e2, hk⟩ := isR_no c58
             rw [hk] at hV at2
             rw [prB_inl] at hV
             subst hV
             exact ⟨rfl, at2, fun k9 c9 v9 e9 => (by cases e9), kpAt.tr kp2⟩))
      · refine wp_iconst dX9_unit_30 ?_
        exact wp_zret dX9_unit_31 rfl (by omega) (by
        obtain rfl : e = 0 := by omega
        rw [unP_eq] at hV
        have hV : V = .inl (sk t i) := by rw [hV]; exact unF_0 (by omega)
        subst hV
        exact ⟨rfl, hI_same, fun k9 c9 v9 e9 => (by cases e9), kpAt⟩)
    · refine wp_iload dX9_unit_17 rfl ?_
      refine wp_bipush dX9_unit_19 rfl ?_
      refine wp_icmpne 98 dX9_unit_21 (by decide) (by unfold InR; omega) (by unfold InR; omega) (fun c21 => ?_) (fun c21 => ?_)
      · have c33 : ¬ lk t i = 33 := by omega
        have c40 : ¬ lk t i = 40 := by omega
        have hV : V = prB (smP t e i) (cmF t (smP t e)) := by
          rw [hV, unP_eq]
          have q : f = none := by cases f with
            | none => rfl
            | some u => exact absurd rfl c7
          rw [q]
          exact unF_n c33 c40
        refine wp_iload_n dX9_unit_98 rfl ?_
        refine wp_ifneb 113 dX9_unit_99 (by decide) (fun c99 => ?_) (fun c99 => ?_)
        · exact absurd c99 c7
        · refine wp_aload_n dX9_unit_102 rfl ?_
          refine wp_aload_n dX9_unit_103 rfl ?_
          refine wp_iload_n dX9_unit_104 rfl ?_
          refine wp_callV dX9_unit_105 mlX9_36 mvX9_sum (hS _ t w (sk t i) ⟨tp.at, tk, hI_same, by omega, by omega, cw.at, by omega⟩) rfl rfl (by omega) (by decide) rfl rfl rfl (Nat.le_of_ble_eq_true rfl) ?_
          rw [smP_sk t e hl]
          rintro rv h2 ⟨rfl, at2, cw2, kp2⟩
          refine wp_ifneb 113 dX9_unit_108 (by decide) (fun c108 => ?_) (fun c108 => ?_)
          · refine wp_loc [(0, .ref (adr X 5)), (1, .ref (adr X 1)), (2, .int (iI (6 - e)))] ⟨rfl, rfl, rfl, trivial⟩ ?_
            obtain ⟨k, z, hk⟩ := isR_ok c108
            obtain ⟨c, v⟩ := z
            have pp := (smP_pp tk e i hl).r hk
            rw [hk] at hV at2
            exact K113 h2 k c v (tp.at.sw kp2) at2 pp.2.1 (by omega) (by omega) (cw2 _ _ _ hk) (kpAt.tr kp2) hV
          · refine wp_iconst dX9_unit_111 ?_
            exact wp_zret dX9_unit_112 rfl (by omega) (by
          obtain ⟨e2, hk⟩ := isR_no c108
          rw [hk] at hV at2
          rw [prB_inl] at hV
          subst hV
          exact ⟨rfl, at2, fun k9 c9 v9 e9 => (by cases e9), kpAt.tr kp2⟩)
      · obtain rfl : f = none := by cases f with
          | none => rfl
          | some u => exact absurd rfl c7
        have lin := lk_in tk hl (by omega : lk t i ≠ -1)
        refine wp_iload_n dX9_unit_24 rfl ?_
        refine wp_bipush dX9_unit_25 rfl ?_
        refine wp_icmplt 32 dX9_unit_27 (by decide) (by unfold InR; omega) (by unfold InR; omega) (fun c27 => ?_) (fun c27 => ?_)
        · obtain ⟨e1, rfl⟩ : ∃ e1, e = e1 + 1 := ⟨e - 1, by omega⟩
          refine wp_aload_n dX9_unit_32 rfl ?_
          refine wp_dup dX9_unit_33 rfl ?_
          refine wp_getI dX9_unit_34 flX9_21 rfl rfl ?_
          rw [hI_same]
          refine wp_iconst dX9_unit_37 ?_
          refine wp_iadd dX9_unit_38 ?_
          refine wp_putI dX9_unit_39 plX9_21 rfl rfl ?_
          rw [sI_sI]
          refine wp_iload dX9_unit_42 rfl ?_
          refine wp_bipush dX9_unit_44 rfl ?_
          refine wp_icmpne 76 dX9_unit_46 (by decide) (by unfold InR; omega) (by unfold InR; omega) (fun c46 => ?_) (fun c46 => ?_)
          · have c33 : lk t i = 33 := by omega
            rw [unP_eq] at hV
            have hV : V = prB (unP t e1 none (sk t i + 1)) (fun k c v => .inr (k, c ++ [-33], ntV v)) := by rw [hV]; exact unF_x c33
            refine wp_aload_n dX9_unit_76 rfl ?_
            refine wp_aload_n dX9_unit_77 rfl ?_
            refine wp_iload_n dX9_unit_78 rfl ?_
            refine wp_iconst dX9_unit_79 ?_
            refine wp_iadd dX9_unit_80 ?_
            rw [show (6 - ((e1 + 1 : Nat) : Int)) + 1 = 6 - (e1 : Int) by omega]
            refine wp_iconst dX9_unit_81 ?_
            refine wp_callV dX9_unit_82 mlX9_53 mvX9_unit (hU e1 rfl _ t w (sk t i + 1) none ⟨tp.at, tk, by rw [hI_same]; omega, by omega, by omega, cw.at, by omega⟩) rfl rfl (by omega) (by decide) rfl rfl rfl (Nat.le_of_ble_eq_true rfl) ?_
            rintro rv h2 ⟨rfl, at2, cw2, kp2⟩
            have pp := unP_pp tk e1 none (sk t i + 1) (by omega)
            refine wp_ifneb 90 dX9_unit_85 (by decide) (fun c85 => ?_) (fun c85 => ?_)
            · obtain ⟨k, z, hk⟩ := isR_ok c85
              obtain ⟨c, v⟩ := z
              have pp2 := pp.r hk
              have cw2 := cw2 _ _ _ hk
              rw [hk] at hV at2
              have at2 : hI h2 1 2 = ((k : Nat) : Int) := at2
              rw [prB_inr] at hV
              refine wp_aload_n dX9_unit_90 rfl ?_
              refine wp_bipush dX9_unit_91 rfl ?_
              refine wp_callVv dX9_unit_93 mlX9_45 mvX9_put (S_X9_put cw2 (by rw [List.length_append]; omega)) rfl rfl (by omega) (by decide) rfl rfl rfl (Nat.le_of_ble_eq_true rfl) ?_
              refine wp_iconst dX9_unit_96 ?_
              exact wp_zret dX9_unit_97 rfl (by omega) (by
            subst hV
            exact ⟨rfl, by rw [ptH_at]; exact at2, fun k9 c9 v9 e9 => (by cases e9; have q := cw2.put (-33); simp only [List.append_assoc] at q ⊢; exact q), (kpAt.tr kp2).tr Kp.pt⟩)
            · refine wp_iconst dX9_unit_88 ?_
              exact wp_zret dX9_unit_89 rfl (by omega) (by
            obtain ⟨e2, hk⟩ := isR_no c85
            rw [hk] at hV at2
            rw [prB_inl] at hV
            subst hV
            exact ⟨rfl, at2, fun k9 c9 v9 e9 => (by cases e9), kpAt.tr kp2⟩)
          · rw [unP_eq] at hV
            have hV : V = prB (cdP t e1 none (sk t i + 1)) (prX t 41) := by rw [hV]; exact unF_b c46
            refine wp_aload_n dX9_unit_49 rfl ?_
            refine wp_aload_n dX9_unit_50 rfl ?_
            refine wp_iload_n dX9_unit_51 rfl ?_
            refine wp_iconst dX9_unit_52 ?_
            refine wp_iadd dX9_unit_53 ?_
            rw [show (6 - ((e1 + 1 : Nat) : Int)) + 1 = 6 - (e1 : Int) by omega]
            refine wp_iconst dX9_unit_54 ?_
            refine wp_callV dX9_unit_55 mlX9_49 mvX9_condition (hC e1 rfl _ t w (sk t i + 1) none ⟨tp.at, tk, by rw [hI_same]; omega, by omega, by omega, cw.at, by omega⟩) rfl rfl (by omega) (by decide) rfl rfl rfl (Nat.le_of_ble_eq_true rfl) ?_
            rintro rv h2 ⟨rfl, at2, cw2, kp2⟩
            have pp := cdP_pp tk e1 none (i := sk t i + 1) (by omega)
            refine wp_ifeqb 74 dX9_unit_58 (by decide) (fun c58 => ?_) (fun c58 => ?_)
            · refine wp_iconst dX9_unit_74 ?_
              exact wp_zret dX9_unit_75 rfl (by omega) (by
            first
            | (rw [if_pos c67] at hV
               subst hV
               exact ⟨rfl, by rw [hI_same, if_pos c67]; show ((sk t k : Nat) : Int) + 1 = ((sk t k + 1 : Nat) : Int); omega, fun k9 c9 v9 e9 => (by cases e9; exact (cw2 _ _ _ hk).at), (kpAt.tr kp2).tr kpAt⟩)
            | (rw [if_neg c67] at hV
               subst hV
               exact ⟨rfl, by rw [hI_same, if_neg c67]; rfl, fun k9 c9 v9 e9 => (by cases e9), (kpAt.tr kp2).tr kpAt⟩)
            | (obtain ⟨e2, hk⟩ := isR_no c58
               rw [hk] at hV at2
               rw [prB_inl] at hV
               subst hV
               exact ⟨rfl, at2, fun k9 c9 v9 e9 => (by cases e9), kpAt.tr kp2⟩))
            · obtain ⟨k, z, hk⟩ := isR_ok c58
              obtain ⟨c, v⟩ := z
              have pp2 := pp.r hk
              rw [hk] at hV at2
              have at2 : hI h2 1 2 = ((k : Nat) : Int) := at2
              rw [prB_inr] at hV
              unfold prX at hV
              refine wp_aload_n dX9_unit_61 rfl ?_
              refine wp_bipush dX9_unit_62 rfl ?_
              refine wp_callV dX9_unit_64 mlX9_28 mvX7_pass (S_X7_pass (i := k) (tp.at.sw kp2) tk at2 pp2.2.1 (by unfold InR; omega)) rfl rfl (by omega) (by decide) rfl rfl rfl (Nat.le_of_ble_eq_true rfl) ?_
              rintro rv h3 ⟨rfl, rfl⟩
              refine wp_ifeqb 74 dX9_unit_67 (by decide) (fun c67 => ?_) (fun c67 => ?_)
              · refine wp_iconst dX9_unit_74 ?_
                exact wp_zret dX9_unit_75 rfl (by omega) (by
            first
            | (rw [if_pos c67] at hV
               subst hV
               exact ⟨rfl, by rw [hI_same, if_pos c67]; show ((sk t k : Nat) : Int) + 1 = ((sk t k + 1 : Nat) : Int); omega, fun k9 c9 v9 e9 => (by cases e9; exact (cw2 _ _ _ hk).at), (kpAt.tr kp2).tr kpAt⟩)
            | (rw [if_neg c67] at hV
               subst hV
               exact ⟨rfl, by rw [hI_same, if_neg c67]; rfl, fun k9 c9 v9 e9 => (by cases e9), (kpAt.tr kp2).tr kpAt⟩)
            | (obtain ⟨e2, hk⟩ := isR_no c58
               rw [hk] at hV at2
               rw [prB_inl] at hV
               subst hV
               exact ⟨rfl, at2, fun k9 c9 v9 e9 => (by cases e9), kpAt.tr kp2⟩))
              · refine wp_iconst dX9_unit_70 ?_
                refine wp_goto 75 dX9_unit_71 (by decide) ?_
                exact wp_zret dX9_unit_75 rfl (by omega) (by
            first
            | (rw [if_pos c67] at hV
               subst hV
               exact ⟨rfl, by rw [hI_same, if_pos c67]; show ((sk t k : Nat) : Int) + 1 = ((sk t k + 1 : Nat) : Int); omega, fun k9 c9 v9 e9 => (by cases e9; exact (cw2 _ _ _ hk).at), (kpAt.tr kp2).tr kpAt⟩)
            | (rw [if_neg c67] at hV
               subst hV
               exact ⟨rfl, by rw [hI_same, if_neg c67]; rfl, fun k9 c9 v9 e9 => (by cases e9), (kpAt.tr kp2).tr kpAt⟩)
            | (obtain ⟨e2, hk⟩ := isR_no c58
               rw [hk] at hV at2
               rw [prB_inl] at hV
               subst hV
               exact ⟨rfl, at2, fun k9 c9 v9 e9 => (by cases e9), kpAt.tr kp2⟩))
        · refine wp_iconst dX9_unit_30 ?_
          exact wp_zret dX9_unit_31 rfl (by omega) (by
          obtain rfl : e = 0 := by omega
          rw [unP_eq] at hV
          have hV : V = .inl (sk t i) := by rw [hV]; exact unF_0 (by omega)
          subst hV
          exact ⟨rfl, hI_same, fun k9 c9 v9 e9 => (by cases e9), kpAt⟩)

