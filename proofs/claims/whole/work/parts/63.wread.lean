/-! the WISH is read: ATOM, SUM -/
set_option maxRecDepth 20000 in
theorem S_X9_put {X : Cx} {h : Hp} {x : Int} {w : List Int} (cw : CW h w) (hw : w.length < 160) : Spec X mX9_put 0 [.ref (adr X 5), .int (iI x)] h (fun rv h' => rv = none ∧ h' = ptH h x) := by
  have c1 := cw.1
  refine spec_wp (Nat.le_of_ble_eq_true rfl) (by decide +kernel) ?_
  refine wp_loc [(0, .ref (adr X 5)), (1, .int (iI x))] ⟨rfl, rfl, trivial⟩ ?_
  refine wp_aload_n dX9_put_0 rfl ?_
  refine wp_getI dX9_put_1 flX9_17 rfl rfl ?_
  refine wp_iflt 39 dX9_put_4 (by decide) (by unfold InR; omega) (fun c4 => ?_) (fun c4 => ?_)
  · exact absurd c4 (by omega)
  · refine wp_aload_n dX9_put_7 rfl ?_
    refine wp_getI dX9_put_8 flX9_17 rfl rfl ?_
    refine wp_aload_n dX9_put_11 rfl ?_
    refine wp_getC dX9_put_12 flX9_11 rfl rfl ?_
    refine wp_alen dX9_put_15 (by first | rfl | exact gs1 hG | exact gs2 hG | exact gs3 hG | exact gs4 hG | exact ws1 hW | exact ws2 hW | assumption) (by decide) ?_
    refine wp_icmpge 39 dX9_put_16 (by decide) (by unfold InR; omega) (by unfold InR; omega) (fun c16 => ?_) (fun c16 => ?_)
    · exact absurd c16 (by omega)
    · refine wp_aload_n dX9_put_19 rfl ?_
      refine wp_getC dX9_put_20 flX9_11 rfl rfl ?_
      refine wp_aload_n dX9_put_23 rfl ?_
      refine wp_getI dX9_put_24 flX9_17 rfl rfl ?_
      refine wp_iload_n dX9_put_27 rfl ?_
      refine wp_iast (n := 160) dX9_put_28 rfl (by omega) (by omega) ?_
      refine wp_aload_n dX9_put_29 rfl ?_
      refine wp_dup dX9_put_30 rfl ?_
      refine wp_getI dX9_put_31 flX9_17 rfl rfl ?_
      rw [hI_sI, if_neg (by omega)]
      refine wp_iconst dX9_put_34 ?_
      refine wp_iadd dX9_put_35 ?_
      refine wp_putI dX9_put_36 plX9_17 rfl rfl ?_
      exact wp_ret dX9_put_39 rfl (⟨rfl, rfl⟩)

set_option maxRecDepth 20000 in
theorem S_X9_isComparing {X : Cx} {h : Hp} {x : Int} (hx : InR x) : Spec X mX9_isComparing 0 [.int (iI x)] h (fun rv h' => rv = some (.int (iI (b2i (x = 61 ∨ x = 60 ∨ x = 62)))) ∧ h' = h) := by
  refine spec_wp (Nat.le_of_ble_eq_true rfl) (by decide +kernel) ?_
  refine wp_loc [(0, .int (iI x))] ⟨rfl, trivial⟩ ?_
  refine wp_iload_n dX9_isComparing_0 rfl ?_
  refine wp_bipush dX9_isComparing_1 rfl ?_
  refine wp_icmpeq 18 dX9_isComparing_3 (by decide) (by first | assumption | (unfold InR; omega)) (by first | assumption | (unfold InR; omega)) (fun c3 => ?_) (fun c3 => ?_)
  · refine wp_iconst dX9_isComparing_18 ?_
    refine wp_goto 23 dX9_isComparing_19 (by decide) ?_
    exact wp_zret dX9_isComparing_23 rfl (by omega) (⟨by first | exact vb1 (by omega) | exact vb0 (by omega), rfl⟩)
  · refine wp_iload_n dX9_isComparing_6 rfl ?_
    refine wp_bipush dX9_isComparing_7 rfl ?_
    refine wp_icmpeq 18 dX9_isComparing_9 (by decide) (by first | assumption | (unfold InR; omega)) (by first | assumption | (unfold InR; omega)) (fun c9 => ?_) (fun c9 => ?_)
    · refine wp_iconst dX9_isComparing_18 ?_
      refine wp_goto 23 dX9_isComparing_19 (by decide) ?_
      exact wp_zret dX9_isComparing_23 rfl (by omega) (⟨by first | exact vb1 (by omega) | exact vb0 (by omega), rfl⟩)
    · refine wp_iload_n dX9_isComparing_12 rfl ?_
      refine wp_bipush dX9_isComparing_13 rfl ?_
      refine wp_icmpne 22 dX9_isComparing_15 (by decide) (by first | assumption | (unfold InR; omega)) (by first | assumption | (unfold InR; omega)) (fun c15 => ?_) (fun c15 => ?_)
      · refine wp_iconst dX9_isComparing_22 ?_
        exact wp_zret dX9_isComparing_23 rfl (by omega) (⟨by first | exact vb1 (by omega) | exact vb0 (by omega), rfl⟩)
      · refine wp_iconst dX9_isComparing_18 ?_
        refine wp_goto 23 dX9_isComparing_19 (by decide) ?_
        exact wp_zret dX9_isComparing_23 rfl (by omega) (⟨by first | exact vb1 (by omega) | exact vb0 (by omega), rfl⟩)

def atS (t : List Int) (e : Nat) : Option (Nat → PR) := match e with
  | 0 => none
  | e + 1 => some (smP t e)
theorem atP_eq (t : List Int) (e i : Nat) : atP t e i = atF t (atS t e) i := by cases e <;> rfl

set_option maxRecDepth 20000 in
theorem S_X9_atom {X : Cx} {e : Nat} (he6 : e ≤ 6) (hS : ∀ e1, e = e1 + 1 → SmC X e1) : AtC X e := by
  intro h t w i hrp
  obtain ⟨tp, tk, hi, hi1, hl, cw, hwl⟩ := hrp
  have t160 := tk.1
  have lb := lk_b tk hl
  have sb := sk_b t hl
  obtain ⟨V, hV⟩ : ∃ V, V = atP t e i := ⟨_, rfl⟩
  rw [← hV]
  refine spec_wp (Nat.le_of_ble_eq_true rfl) (by decide +kernel) ?_
  refine wp_loc [(0, .ref (adr X 5)), (1, .ref (adr X 1)), (2, .int (iI (6 - e)))] ⟨rfl, rfl, rfl, trivial⟩ ?_
  refine wp_aload_n dX9_atom_0 rfl ?_
  refine wp_callV dX9_atom_1 mlX9_32 mvX7_sign (S_X7_sign tp tk hi hl) rfl rfl (by omega) (by decide) rfl rfl rfl (Nat.le_of_ble_eq_true rfl) ?_
  rintro rv h1 ⟨rfl, rfl⟩
  refine wp_istore_n dX9_atom_4 (by decide) ?_
  refine wp_iload_n dX9_atom_5 rfl ?_
  refine wp_bipush dX9_atom_6 rfl ?_
  refine wp_icmpne 55 dX9_atom_8 (by decide) (by unfold InR; omega) (by unfold InR; omega) (fun c8 => ?_) (fun c8 => ?_)
  · refine wp_iload_n dX9_atom_55 rfl ?_
    refine wp_bipush dX9_atom_56 rfl ?_
    refine wp_icmpeq 85 dX9_atom_58 (by decide) (by unfold InR; omega) (by unfold InR; omega) (fun c58 => ?_) (fun c58 => ?_)
    · rw [atP_eq] at hV
      unfold atF at hV
      refine wp_aload_n dX9_atom_85 rfl ?_
      refine wp_dup dX9_atom_86 rfl ?_
      refine wp_getI dX9_atom_87 flX9_21 rfl rfl ?_
      rw [hI_same]
      refine wp_iconst dX9_atom_90 ?_
      refine wp_iadd dX9_atom_91 ?_
      refine wp_putI dX9_atom_92 plX9_21 rfl rfl ?_
      rw [sI_sI]
      refine wp_aload_n dX9_atom_95 rfl ?_
      refine wp_iload_n dX9_atom_96 rfl ?_
      refine wp_ineg dX9_atom_97 ?_
      refine wp_callVv dX9_atom_98 mlX9_45 mvX9_put (S_X9_put cw.at (by have := lk_in tk hl (by omega : lk t i ≠ -1); omega)) rfl rfl (by omega) (by decide) rfl rfl rfl (Nat.le_of_ble_eq_true rfl) ?_
      refine wp_iconst dX9_atom_101 ?_
      exact wp_zret dX9_atom_102 rfl (by omega) (by
        rw [if_neg (by omega), if_pos (by omega)] at hV
        subst hV
        exact ⟨rfl, by rw [ptH_at, hI_same]; show ((sk t i : Nat) : Int) + 1 = ((sk t i + 1 : Nat) : Int); omega, fun k9 c9 v9 e9 => (by cases e9; exact cw.at.put _), kpAt.tr Kp.pt⟩)
    · refine wp_iload_n dX9_atom_61 rfl ?_
      refine wp_bipush dX9_atom_62 rfl ?_
      refine wp_icmpeq 85 dX9_atom_64 (by decide) (by unfold InR; omega) (by unfold InR; omega) (fun c64 => ?_) (fun c64 => ?_)
      · rw [atP_eq] at hV
        unfold atF at hV
        refine wp_aload_n dX9_atom_85 rfl ?_
        refine wp_dup dX9_atom_86 rfl ?_
        refine wp_getI dX9_atom_87 flX9_21 rfl rfl ?_
        rw [hI_same]
        refine wp_iconst dX9_atom_90 ?_
        refine wp_iadd dX9_atom_91 ?_
        refine wp_putI dX9_atom_92 plX9_21 rfl rfl ?_
        rw [sI_sI]
        refine wp_aload_n dX9_atom_95 rfl ?_
        refine wp_iload_n dX9_atom_96 rfl ?_
        refine wp_ineg dX9_atom_97 ?_
        refine wp_callVv dX9_atom_98 mlX9_45 mvX9_put (S_X9_put cw.at (by have := lk_in tk hl (by omega : lk t i ≠ -1); omega)) rfl rfl (by omega) (by decide) rfl rfl rfl (Nat.le_of_ble_eq_true rfl) ?_
        refine wp_iconst dX9_atom_101 ?_
        exact wp_zret dX9_atom_102 rfl (by omega) (by
          rw [if_neg (by omega), if_pos (by omega)] at hV
          subst hV
          exact ⟨rfl, by rw [ptH_at, hI_same]; show ((sk t i : Nat) : Int) + 1 = ((sk t i + 1 : Nat) : Int); omega, fun k9 c9 v9 e9 => (by cases e9; exact cw.at.put _), kpAt.tr Kp.pt⟩)
      · refine wp_iload_n dX9_atom_67 rfl ?_
        refine wp_bipush dX9_atom_68 rfl ?_
        refine wp_icmpeq 85 dX9_atom_70 (by decide) (by unfold InR; omega) (by unfold InR; omega) (fun c70 => ?_) (fun c70 => ?_)
        · rw [atP_eq] at hV
          unfold atF at hV
          refine wp_aload_n dX9_atom_85 rfl ?_
          refine wp_dup dX9_atom_86 rfl ?_
          refine wp_getI dX9_atom_87 flX9_21 rfl rfl ?_
          rw [hI_same]
          refine wp_iconst dX9_atom_90 ?_
          refine wp_iadd dX9_atom_91 ?_
          refine wp_putI dX9_atom_92 plX9_21 rfl rfl ?_
          rw [sI_sI]
          refine wp_aload_n dX9_atom_95 rfl ?_
          refine wp_iload_n dX9_atom_96 rfl ?_
          refine wp_ineg dX9_atom_97 ?_
          refine wp_callVv dX9_atom_98 mlX9_45 mvX9_put (S_X9_put cw.at (by have := lk_in tk hl (by omega : lk t i ≠ -1); omega)) rfl rfl (by omega) (by decide) rfl rfl rfl (Nat.le_of_ble_eq_true rfl) ?_
          refine wp_iconst dX9_atom_101 ?_
          exact wp_zret dX9_atom_102 rfl (by omega) (by
            rw [if_neg (by omega), if_pos (by omega)] at hV
            subst hV
            exact ⟨rfl, by rw [ptH_at, hI_same]; show ((sk t i : Nat) : Int) + 1 = ((sk t i + 1 : Nat) : Int); omega, fun k9 c9 v9 e9 => (by cases e9; exact cw.at.put _), kpAt.tr Kp.pt⟩)
        · refine wp_iload_n dX9_atom_73 rfl ?_
          refine wp_bipush dX9_atom_74 rfl ?_
          refine wp_icmpeq 85 dX9_atom_76 (by decide) (by unfold InR; omega) (by unfold InR; omega) (fun c76 => ?_) (fun c76 => ?_)
          · rw [atP_eq] at hV
            unfold atF at hV
            refine wp_aload_n dX9_atom_85 rfl ?_
            refine wp_dup dX9_atom_86 rfl ?_
            refine wp_getI dX9_atom_87 flX9_21 rfl rfl ?_
            rw [hI_same]
            refine wp_iconst dX9_atom_90 ?_
            refine wp_iadd dX9_atom_91 ?_
            refine wp_putI dX9_atom_92 plX9_21 rfl rfl ?_
            rw [sI_sI]
            refine wp_aload_n dX9_atom_95 rfl ?_
            refine wp_iload_n dX9_atom_96 rfl ?_
            refine wp_ineg dX9_atom_97 ?_
            refine wp_callVv dX9_atom_98 mlX9_45 mvX9_put (S_X9_put cw.at (by have := lk_in tk hl (by omega : lk t i ≠ -1); omega)) rfl rfl (by omega) (by decide) rfl rfl rfl (Nat.le_of_ble_eq_true rfl) ?_
            refine wp_iconst dX9_atom_101 ?_
            exact wp_zret dX9_atom_102 rfl (by omega) (by
              rw [if_neg (by omega), if_pos (by omega)] at hV
              subst hV
              exact ⟨rfl, by rw [ptH_at, hI_same]; show ((sk t i : Nat) : Int) + 1 = ((sk t i + 1 : Nat) : Int); omega, fun k9 c9 v9 e9 => (by cases e9; exact cw.at.put _), kpAt.tr Kp.pt⟩)
          · refine wp_iload_n dX9_atom_79 rfl ?_
            refine wp_bipush dX9_atom_80 rfl ?_
            refine wp_icmpne 103 dX9_atom_82 (by decide) (by unfold InR; omega) (by unfold InR; omega) (fun c82 => ?_) (fun c82 => ?_)
            · refine wp_aload_n dX9_atom_103 rfl ?_
              refine wp_iconst dX9_atom_104 ?_
              refine wp_callV dX9_atom_105 mlX9_59 mvX7_number (S_X7_number (m := 4) tp.at tk hI_same sb.2 (by decide)) rfl rfl (by omega) (by decide) rfl rfl rfl (Nat.le_of_ble_eq_true rfl) ?_
              rintro rv h2 hq
              obtain ⟨rfl, rfl⟩ := nmQ_f hq
              rw [sI_sI]
              have nb := nmV_b tk (m := 4) (by decide) sb.2
              refine wp_istore dX9_atom_108 (by decide) ?_
              refine wp_iload dX9_atom_110 rfl ?_
              refine wp_iconst dX9_atom_112 ?_
              refine wp_icmpne 118 dX9_atom_113 (by decide) (by unfold InR; omega) (by unfold InR; omega) (fun c113 => ?_) (fun c113 => ?_)
              · obtain ⟨k2, y, he⟩ := nmV_ok c113
                have hr := nmr tk (by decide) sb.2 he
                have hV0 := hV
                rw [he]
                dsimp only [nmV, psI]
                refine wp_aload_n dX9_atom_118 rfl ?_
                refine wp_iload dX9_atom_119 rfl ?_
                refine wp_callVv dX9_atom_121 mlX9_45 mvX9_put (S_X9_put cw.at (by omega)) rfl rfl (by omega) (by decide) rfl rfl rfl (Nat.le_of_ble_eq_true rfl) ?_
                refine wp_iconst dX9_atom_124 ?_
                exact wp_zret dX9_atom_125 rfl (by omega) (by
  rw [atP_eq] at hV0
  unfold atF at hV0
  rw [if_neg c8, if_neg (by omega), he] at hV0
  subst hV0
  exact ⟨rfl, by rw [ptH_at, hI_same]; rfl, fun k9 c9 v9 e9 => (by cases e9; exact cw.at.put _), kpAt.tr Kp.pt⟩)
              · refine wp_iconst dX9_atom_116 ?_
                exact wp_zret dX9_atom_117 rfl (by omega) (by
  obtain ⟨e2, he⟩ := nmV_no tk (by decide) sb.2 c113
  rw [atP_eq] at hV
  unfold atF at hV
  rw [if_neg c8, if_neg (by omega), he] at hV
  subst hV
  exact ⟨rfl, by rw [hI_same, he]; rfl, fun k9 c9 v9 e9 => (by cases e9), kpAt⟩)
            · rw [atP_eq] at hV
              unfold atF at hV
              refine wp_aload_n dX9_atom_85 rfl ?_
              refine wp_dup dX9_atom_86 rfl ?_
              refine wp_getI dX9_atom_87 flX9_21 rfl rfl ?_
              rw [hI_same]
              refine wp_iconst dX9_atom_90 ?_
              refine wp_iadd dX9_atom_91 ?_
              refine wp_putI dX9_atom_92 plX9_21 rfl rfl ?_
              rw [sI_sI]
              refine wp_aload_n dX9_atom_95 rfl ?_
              refine wp_iload_n dX9_atom_96 rfl ?_
              refine wp_ineg dX9_atom_97 ?_
              refine wp_callVv dX9_atom_98 mlX9_45 mvX9_put (S_X9_put cw.at (by have := lk_in tk hl (by omega : lk t i ≠ -1); omega)) rfl rfl (by omega) (by decide) rfl rfl rfl (Nat.le_of_ble_eq_true rfl) ?_
              refine wp_iconst dX9_atom_101 ?_
              exact wp_zret dX9_atom_102 rfl (by omega) (by
                rw [if_neg (by omega), if_pos (by omega)] at hV
                subst hV
                exact ⟨rfl, by rw [ptH_at, hI_same]; show ((sk t i : Nat) : Int) + 1 = ((sk t i + 1 : Nat) : Int); omega, fun k9 c9 v9 e9 => (by cases e9; exact cw.at.put _), kpAt.tr Kp.pt⟩)
  · have lin := lk_in tk hl (by omega : lk t i ≠ -1)
    refine wp_iload_n dX9_atom_11 rfl ?_
    refine wp_bipush dX9_atom_12 rfl ?_
    refine wp_icmplt 19 dX9_atom_14 (by decide) (by unfold InR; omega) (by unfold InR; omega) (fun c14 => ?_) (fun c14 => ?_)
    · obtain ⟨e1, rfl⟩ : ∃ e1, e = e1 + 1 := ⟨e - 1, by omega⟩
      have hV : V = prB (smP t e1 (sk t i + 1)) (prX t 93) := by rw [hV]; show atF t (some (smP t e1)) i = _; unfold atF; rw [if_pos c8]
      refine wp_aload_n dX9_atom_19 rfl ?_
      refine wp_dup dX9_atom_20 rfl ?_
      refine wp_getI dX9_atom_21 flX9_21 rfl rfl ?_
      rw [hI_same]
      refine wp_iconst dX9_atom_24 ?_
      refine wp_iadd dX9_atom_25 ?_
      refine wp_putI dX9_atom_26 plX9_21 rfl rfl ?_
      rw [sI_sI]
      refine wp_aload_n dX9_atom_29 rfl ?_
      refine wp_aload_n dX9_atom_30 rfl ?_
      refine wp_iload_n dX9_atom_31 rfl ?_
      refine wp_iconst dX9_atom_32 ?_
      refine wp_iadd dX9_atom_33 ?_
      rw [show (6 - ((e1 + 1 : Nat) : Int)) + 1 = 6 - (e1 : Int) by omega]
      refine wp_callV dX9_atom_34 mlX9_36 mvX9_sum (hS e1 rfl _ t w (sk t i + 1) ⟨tp.at, tk, by rw [hI_same]; omega, by omega, by omega, cw.at, by omega⟩) rfl rfl (by omega) (by decide) rfl rfl rfl (Nat.le_of_ble_eq_true rfl) ?_
      rintro rv h2 ⟨rfl, at2, cw2, kp2⟩
      have pp := smP_pp tk e1 (sk t i + 1) (by omega)
      refine wp_ifeqb 53 dX9_atom_37 (by decide) (fun c37 => ?_) (fun c37 => ?_)
      · refine wp_iconst dX9_atom_53 ?_
        exact wp_zret dX9_atom_54 rfl (by omega) (by
        first
        | (rw [if_pos c46] at hV
           subst hV
           exact ⟨rfl, by rw [hI_same, if_pos c46]; show ((sk t k : Nat) : Int) + 1 = ((sk t k + 1 : Nat) : Int); omega, fun k9 c9 v9 e9 => (by cases e9; exact (cw2 _ _ _ hk).at), (kpAt.tr kp2).tr kpAt⟩)
        | (rw [if_neg c46] at hV
           subst hV
           exact ⟨rfl, by rw [hI_same, if_neg c46]; rfl, fun k9 c9 v9 e9 => (by cases e9), (kpAt.tr kp2).tr kpAt⟩)
        | (obtain ⟨e2, hk⟩ := isR_no c37
           rw [hk] at hV at2
           rw [prB_inl] at hV
           subst hV
           exact ⟨rfl, at2, fun k9 c9 v9 e9 => (by cases e9), kpAt.tr kp2⟩))
      · obtain ⟨k, z, hk⟩ := isR_ok c37
        obtain ⟨c, v⟩ := z
        have pp2 := pp.r hk
        rw [hk] at hV at2
        have at2 : hI h2 1 2 = ((k : Nat) : Int) := at2
        rw [prB_inr] at hV
        unfold prX at hV
        refine wp_aload_n dX9_atom_40 rfl ?_
        refine wp_bipush dX9_atom_41 rfl ?_
        refine wp_callV dX9_atom_43 mlX9_28 mvX7_pass (S_X7_pass (i := k) (tp.at.sw kp2) tk at2 pp2.2.1 (by unfold InR; omega)) rfl rfl (by omega) (by decide) rfl rfl rfl (Nat.le_of_ble_eq_true rfl) ?_
        rintro rv h3 ⟨rfl, rfl⟩
        refine wp_ifeqb 53 dX9_atom_46 (by decide) (fun c46 => ?_) (fun c46 => ?_)
        · refine wp_iconst dX9_atom_53 ?_
          exact wp_zret dX9_atom_54 rfl (by omega) (by
        first
        | (rw [if_pos c46] at hV
           subst hV
           exact ⟨rfl, by rw [hI_same, if_pos c46]; show ((sk t k : Nat) : Int) + 1 = ((sk t k + 1 : Nat) : Int); omega, fun k9 c9 v9 e9 => (by cases e9; exact (cw2 _ _ _ hk).at), (kpAt.tr kp2).tr kpAt⟩)
        | (rw [if_neg c46] at hV
           subst hV
           exact ⟨rfl, by rw [hI_same, if_neg c46]; rfl, fun k9 c9 v9 e9 => (by cases e9), (kpAt.tr kp2).tr kpAt⟩)
        | (obtain ⟨e2, hk⟩ := isR_no c37
           rw [hk] at hV at2
           rw [prB_inl] at hV
           subst hV
           exact ⟨rfl, at2, fun k9 c9 v9 e9 => (by cases e9), kpAt.tr kp2⟩))
        · refine wp_iconst dX9_atom_49 ?_
          refine wp_goto 54 dX9_atom_50 (by decide) ?_
          exact wp_zret dX9_atom_54 rfl (by omega) (by
        first
        | (rw [if_pos c46] at hV
           subst hV
           exact ⟨rfl, by rw [hI_same, if_pos c46]; show ((sk t k : Nat) : Int) + 1 = ((sk t k + 1 : Nat) : Int); omega, fun k9 c9 v9 e9 => (by cases e9; exact (cw2 _ _ _ hk).at), (kpAt.tr kp2).tr kpAt⟩)
        | (rw [if_neg c46] at hV
           subst hV
           exact ⟨rfl, by rw [hI_same, if_neg c46]; rfl, fun k9 c9 v9 e9 => (by cases e9), (kpAt.tr kp2).tr kpAt⟩)
        | (obtain ⟨e2, hk⟩ := isR_no c37
           rw [hk] at hV at2
           rw [prB_inl] at hV
           subst hV
           exact ⟨rfl, at2, fun k9 c9 v9 e9 => (by cases e9), kpAt.tr kp2⟩))
    · refine wp_iconst dX9_atom_17 ?_
      exact wp_zret dX9_atom_18 rfl (by omega) (by
  obtain rfl : e = 0 := by omega
  have hV : V = .inl (sk t i) := by rw [hV]; show atF t none i = _; unfold atF; rw [if_pos c8]
  subst hV
  exact ⟨rfl, hI_same, fun k9 c9 v9 e9 => (by cases e9), kpAt⟩)

