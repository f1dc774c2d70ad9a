/-! the WISH is read: SUM -/
theorem J1_t {x : Int} : J1 x = true ↔ x = 42 ∨ x = 47 := by unfold J1; exact decide_eq_true_iff
theorem J2_t {x : Int} : J2 x = true ↔ x = 43 ∨ x = 45 := by unfold J2; exact decide_eq_true_iff
theorem J3_t {x : Int} : J3 x = true ↔ x = 38 := by unfold J3; exact decide_eq_true_iff
theorem J4_t {x : Int} : J4 x = true ↔ x = 124 := by unfold J4; exact decide_eq_true_iff
theorem sw_z (c : List Int) : sw c 0 = c := rfl
theorem sw_n {c : List Int} {m : Int} (h : m ≠ 0) : sw c m = c ++ [-m] := if_neg h
theorem pd_z : pd 0 = 0 := rfl
theorem pd_n {m : Int} (h : m ≠ 0) : pd m = 1 := if_neg h

set_option maxRecDepth 20000 in
theorem S_X9_sum0 {X : Cx} {e : Nat} (he6 : e ≤ 6) (hA : AtC X e) : SmC X e := by
  intro h t w i hrp
  obtain ⟨tp, tk, hi, hi1, hl, cw, hwl⟩ := hrp
  have t160 := tk.1
  have lb := lk_b tk hl
  have sb := sk_b t hl
  obtain ⟨V, hV⟩ : ∃ V, V = smP t e i := ⟨_, rfl⟩
  rw [← hV]
  refine spec_wp (Nat.le_of_ble_eq_true rfl) (by decide +kernel) ?_
  refine wp_loc [(0, .ref (adr X 5)), (1, .ref (adr X 1)), (2, .int (iI (6 - e)))] ⟨rfl, rfl, rfl, trivial⟩ ?_
  have L : ∀ (n : Nat) (a m : Int) (u w1 : Vl) (n1 n2 j : Nat) (cd : List Int) (z : Int) (h1 : Hp), (z + n = 160 ∧ 0 ≤ z ∧ z + 1 ≤ j) → (j ≤ t.length) → (t.length < n1 + j ∧ t.length < n2 + j) → ((a = 0 ∨ a = 43 ∨ a = 45) ∧ (m = 0 ∨ m = 42 ∨ m = 47)) → (TPh h1 t) → (hI h1 1 2 = j) → (CW h1 (w ++ cd)) → ((w ++ cd).length + pd a + pd m ≤ j) → (Kp SW h h1) → (V = app cd (prB (lpF t J1 (fun _ => atP t e) n1 none m w1 j) (jK t J2 (lpF t J2 (fun _ => tmP t e) n2 none) a u))) → WP X mX9_sum ((2 * e + 3)) 8 [(0, .ref (adr X 5)), (1, .ref (adr X 1)), (2, .int (iI (6 - e))), (3, .int (iI a)), (4, .int (iI m)), (5, .int (iI z))] [] h1 (PQ h w V) := by
    intro n
    induction n with
    | zero =>
      intro a m u w1 n1 n2 j cd z h1 hz hj hf ham tp hi cw hlw kp hV
      exfalso; omega
    | succ n ih =>
      intro a m u w1 n1 n2 j cd z h1 hz hj hf ham tp hi cw hlw kp hV
      obtain ⟨n1, rfl⟩ : ∃ q, n1 = q + 1 := ⟨n1 - 1, by omega⟩
      obtain ⟨n2, rfl⟩ : ∃ q, n2 = q + 1 := ⟨n2 - 1, by omega⟩
      refine wp_iload dX9_sum_8 rfl ?_
      refine wp_sipush dX9_sum_10 rfl ?_
      refine wp_icmpge 125 dX9_sum_13 (by decide) (by unfold InR; omega) (by unfold InR; omega) (fun c13 => ?_) (fun c13 => ?_)
      · exact absurd c13 (by omega)
      · refine wp_aload_n dX9_sum_16 rfl ?_
        refine wp_aload_n dX9_sum_17 rfl ?_
        refine wp_iload_n dX9_sum_18 rfl ?_
        refine wp_callV dX9_sum_19 mlX9_56 mvX9_atom (hA h1 t (w ++ cd) j ⟨tp, tk, hi, by omega, hj, cw, by omega⟩) rfl rfl (by omega) (by decide) rfl rfl rfl (Nat.le_of_ble_eq_true rfl) ?_
        rintro rv h2 ⟨rfl, at2, cw2, kp2a⟩
        refine wp_ifneb 27 dX9_sum_22 (by decide) (fun c22 => ?_) (fun c22 => ?_)
        · obtain ⟨k, y, hk0⟩ := isR_ok c22
          obtain ⟨c, v⟩ := y
          have pp := (atP_pp tk e hj).r hk0
          have hk : k ≤ t.length := pp.2.1
          have cw2 := cw2 k c v hk0
          rw [hk0] at at2
          have at2 : hI h2 1 2 = ((k : Nat) : Int) := at2
          have tp2 := tp.sw kp2a
          have kp2 := kp.tr kp2a
          have lb := lk_b tk hk
          have sb := sk_b t hk
          rw [lpF_s, hk0, prB_inr] at hV
          have hsl := sw_len c m
          rw [List.length_append] at hlw
          have hl2 : (w ++ cd ++ sw c m).length = w.length + cd.length + c.length + pd m := by simp only [List.length_append]; omega
          have K39 : ∀ h3 : Hp, CW h3 (w ++ cd ++ sw c m) → TPh h3 t → hI h3 1 2 = ((k : Nat) : Int) → Kp SW h h3 → (w ++ cd ++ sw c m).length + pd a ≤ k → WP X mX9_sum (2 * e + 3) 39 [(0, .ref (adr X 5)), (1, .ref (adr X 1)), (2, .int (iI (6 - e))), (3, .int (iI a)), (5, .int (iI z))] [] h3 (PQ h w V) := by
            intro h3 cw3 tp3 at3 kp3 hl3
            refine wp_aload_n dX9_sum_39 rfl ?_
            refine wp_callV dX9_sum_40 mlX9_32 mvX7_sign (S_X7_sign (i := k) tp3 tk at3 hk) rfl rfl (by omega) (by decide) rfl rfl rfl (Nat.le_of_ble_eq_true rfl) ?_
            rintro rv h8 ⟨rfl, rfl⟩
            have cw3 := cw3.at (v := ((sk t k : Nat) : Int))
            have tp3 := tp3.at (v := ((sk t k : Nat) : Int))
            have kp3 := kp3.tr (kpAt (v := ((sk t k : Nat) : Int)))
            have at3 : hI (sI h3 1 2 ((sk t k : Nat) : Int)) 1 2 = ((sk t k : Nat) : Int) := hI_same
            generalize sI h3 1 2 ((sk t k : Nat) : Int) = h3 at *
            have hl3 : (w ++ cd ++ sw c m).length + pd a ≤ sk t k := by omega
            refine wp_istore dX9_sum_43 (by decide) ?_
            refine wp_iload dX9_sum_45 rfl ?_
            refine wp_bipush dX9_sum_47 rfl ?_
            refine wp_icmpeq 59 dX9_sum_49 (by decide) (by unfold InR; omega) (by unfold InR; omega) (fun c49 => ?_) (fun c49 => ?_)
            · have hT : lk t k = 42 ∨ lk t k = 47 := by omega
              refine wp_iload dX9_sum_59 rfl ?_
              refine wp_goto 65 dX9_sum_61 (by decide) ?_
              refine wp_istore dX9_sum_65 (by decide) ?_
              refine wp_iload dX9_sum_67 rfl ?_
              refine wp_ifne 109 dX9_sum_69 (by decide) (by unfold InR; omega) (fun c69 => ?_) (fun c69 => ?_)
              · rw [jK_t (J1_t.mpr hT), prB_app_jK, app_app] at hV
                have lin := lk_in tk hk (by omega : lk t k ≠ -1)
                refine wp_aload_n dX9_sum_109 rfl ?_
                refine wp_dup dX9_sum_110 rfl ?_
                refine wp_getI dX9_sum_111 flX9_21 rfl rfl ?_
                rw [at3]
                refine wp_iconst dX9_sum_114 ?_
                refine wp_iadd dX9_sum_115 ?_
                refine wp_putI dX9_sum_116 plX9_21 rfl rfl ?_
                refine wp_iinc dX9_sum_119 rfl (by decide) ?_
                refine wp_goto 8 dX9_sum_122 (by decide) ?_
                refine wp_loc [(0, .ref (adr X 5)), (1, .ref (adr X 1)), (2, .int (iI (6 - e))), (3, .int (iI a)), (4, .int (iI (lk t k))), (5, .int (iI (z + 1)))] ⟨rfl, rfl, rfl, rfl, rfl, rfl, trivial⟩ ?_
                exact ih a (lk t k) u (sv m w1 v) n1 (n2 + 1) (sk t k + 1) (cd ++ sw c m) (z + 1) _ (by omega) (by omega) (by omega) (by omega) tp3.at (by rw [hI_same]; omega) (by rw [← List.append_assoc]; exact cw3.at) (by rw [pd_n (m := lk t k) (by omega)]; rw [List.length_append] at hl3 ⊢; rw [List.length_append]; rw [List.length_append] at hl3; omega) (kp3.tr kpAt) hV
              · exact absurd c69 (by omega)
            · refine wp_iload dX9_sum_52 rfl ?_
              refine wp_bipush dX9_sum_54 rfl ?_
              refine wp_icmpne 64 dX9_sum_56 (by decide) (by unfold InR; omega) (by unfold InR; omega) (fun c56 => ?_) (fun c56 => ?_)
              · have hT : ¬ (lk t k = 42 ∨ lk t k = 47) := by omega
                refine wp_iconst dX9_sum_64 ?_
                refine wp_istore dX9_sum_65 (by decide) ?_
                refine wp_iload dX9_sum_67 rfl ?_
                refine wp_ifne 109 dX9_sum_69 (by decide) (by unfold InR; omega) (fun c69 => ?_) (fun c69 => ?_)
                · exact absurd rfl c69
                · rw [jK_f (by rw [J1_t]; exact hT), prB_inr] at hV
                  have K82 : ∀ h4 : Hp, CW h4 (w ++ cd ++ sw (sw c m) a) → TPh h4 t → hI h4 1 2 = ((sk t k : Nat) : Int) → Kp SW h h4 → (w ++ cd ++ sw (sw c m) a).length ≤ sk t k → WP X mX9_sum (2 * e + 3) 82 [(0, .ref (adr X 5)), (1, .ref (adr X 1)), (2, .int (iI (6 - e))), (4, .int (iI 0)), (5, .int (iI z)), (6, .int (iI (lk t k)))] [] h4 (PQ h w V) := by
                    intro h4 cw4 tp4 at4 kp4 hl4
                    refine wp_iload dX9_sum_82 rfl ?_
                    refine wp_bipush dX9_sum_84 rfl ?_
                    refine wp_icmpeq 96 dX9_sum_86 (by decide) (by unfold InR; omega) (by unfold InR; omega) (fun c86 => ?_) (fun c86 => ?_)
                    · have hA : lk t k = 43 ∨ lk t k = 45 := by omega
                      rw [jK_t (by rw [lk_sk t hk]; exact J2_t.mpr hA), app_app, lk_sk t hk, sk_sk t hk, lpF_s] at hV
                      have lin := lk_in tk hk (by omega : lk t k ≠ -1)
                      refine wp_iload dX9_sum_96 rfl ?_
                      refine wp_goto 102 dX9_sum_98 (by decide) ?_
                      refine wp_istore_n dX9_sum_102 (by decide) ?_
                      refine wp_iload_n dX9_sum_103 rfl ?_
                      refine wp_ifne 109 dX9_sum_104 (by decide) (by unfold InR; omega) (fun c104 => ?_) (fun c104 => ?_)
                      · refine wp_aload_n dX9_sum_109 rfl ?_
                        refine wp_dup dX9_sum_110 rfl ?_
                        refine wp_getI dX9_sum_111 flX9_21 rfl rfl ?_
                        rw [at4]
                        refine wp_iconst dX9_sum_114 ?_
                        refine wp_iadd dX9_sum_115 ?_
                        refine wp_putI dX9_sum_116 plX9_21 rfl rfl ?_
                        refine wp_iinc dX9_sum_119 rfl (by decide) ?_
                        refine wp_goto 8 dX9_sum_122 (by decide) ?_
                        refine wp_loc [(0, .ref (adr X 5)), (1, .ref (adr X 1)), (2, .int (iI (6 - e))), (3, .int (iI (lk t k))), (4, .int (iI 0)), (5, .int (iI (z + 1)))] ⟨rfl, rfl, rfl, rfl, rfl, rfl, trivial⟩ ?_
                        exact ih (lk t k) 0 (sv a u (sv m w1 v)) v0 161 n2 (sk t k + 1) (cd ++ sw (sw c m) a) (z + 1) _ (by omega) (by omega) (by omega) (by omega) tp4.at (by rw [hI_same]; omega) (by rw [← List.append_assoc]; exact cw4.at) (by rw [pd_n (m := lk t k) (by omega), pd_z]; rw [List.length_append] at hl4 ⊢; rw [List.length_append]; rw [List.length_append] at hl4; omega) (kp4.tr kpAt) hV
                      · exact absurd c104 (by omega)
                    · refine wp_iload dX9_sum_89 rfl ?_
                      refine wp_bipush dX9_sum_91 rfl ?_
                      refine wp_icmpne 101 dX9_sum_93 (by decide) (by unfold InR; omega) (by unfold InR; omega) (fun c93 => ?_) (fun c93 => ?_)
                      · have hA : ¬ (lk t k = 43 ∨ lk t k = 45) := by omega
                        rw [jK_f (by rw [lk_sk t hk, J2_t]; exact hA), app_inr, sk_sk t hk] at hV
                        refine wp_iconst dX9_sum_101 ?_
                        refine wp_istore_n dX9_sum_102 (by decide) ?_
                        refine wp_iload_n dX9_sum_103 rfl ?_
                        refine wp_ifne 109 dX9_sum_104 (by decide) (by unfold InR; omega) (fun c104 => ?_) (fun c104 => ?_)
                        · exact absurd rfl c104
                        · refine wp_iconst dX9_sum_107 ?_
                          exact wp_zret dX9_sum_108 rfl (by omega) (by
                          subst hV
                          exact ⟨rfl, at4, fun k9 c9 v9 e9 => (by cases e9; rw [← List.append_assoc]; exact cw4), kp4⟩)
                      · have hA : lk t k = 43 ∨ lk t k = 45 := by omega
                        rw [jK_t (by rw [lk_sk t hk]; exact J2_t.mpr hA), app_app, lk_sk t hk, sk_sk t hk, lpF_s] at hV
                        have lin := lk_in tk hk (by omega : lk t k ≠ -1)
                        refine wp_iload dX9_sum_96 rfl ?_
                        refine wp_goto 102 dX9_sum_98 (by decide) ?_
                        refine wp_istore_n dX9_sum_102 (by decide) ?_
                        refine wp_iload_n dX9_sum_103 rfl ?_
                        refine wp_ifne 109 dX9_sum_104 (by decide) (by unfold InR; omega) (fun c104 => ?_) (fun c104 => ?_)
                        · refine wp_aload_n dX9_sum_109 rfl ?_
                          refine wp_dup dX9_sum_110 rfl ?_
                          refine wp_getI dX9_sum_111 flX9_21 rfl rfl ?_
                          rw [at4]
                          refine wp_iconst dX9_sum_114 ?_
                          refine wp_iadd dX9_sum_115 ?_
                          refine wp_putI dX9_sum_116 plX9_21 rfl rfl ?_
                          refine wp_iinc dX9_sum_119 rfl (by decide) ?_
                          refine wp_goto 8 dX9_sum_122 (by decide) ?_
                          refine wp_loc [(0, .ref (adr X 5)), (1, .ref (adr X 1)), (2, .int (iI (6 - e))), (3, .int (iI (lk t k))), (4, .int (iI 0)), (5, .int (iI (z + 1)))] ⟨rfl, rfl, rfl, rfl, rfl, rfl, trivial⟩ ?_
                          exact ih (lk t k) 0 (sv a u (sv m w1 v)) v0 161 n2 (sk t k + 1) (cd ++ sw (sw c m) a) (z + 1) _ (by omega) (by omega) (by omega) (by omega) tp4.at (by rw [hI_same]; omega) (by rw [← List.append_assoc]; exact cw4.at) (by rw [pd_n (m := lk t k) (by omega), pd_z]; rw [List.length_append] at hl4 ⊢; rw [List.length_append]; rw [List.length_append] at hl4; omega) (kp4.tr kpAt) hV
                        · exact absurd c104 (by omega)
                  refine wp_iload_n dX9_sum_72 rfl ?_
                  refine wp_ifeq 82 dX9_sum_73 (by decide) (by unfold InR; omega) (fun c73 => ?_) (fun c73 => ?_)
                  · refine wp_loc [(0, .ref (adr X 5)), (1, .ref (adr X 1)), (2, .int (iI (6 - e))), (4, .int (iI 0)), (5, .int (iI z)), (6, .int (iI (lk t k)))] ⟨rfl, rfl, rfl, rfl, rfl, rfl, trivial⟩ ?_
                    first
                      | exact K82 _ (by rw [c73, sw_z]; exact cw3) tp3 at3 kp3 (by rw [c73, sw_z]; omega)
                      | exact K82 _ (by rw [sw_n c73, ← List.append_assoc]; exact cw3.put _) (tp3.sw Kp.pt) (by rw [ptH_at]; exact at3) (kp3.tr Kp.pt) (by rw [sw_n c73, ← List.append_assoc, List.length_append, List.length_singleton]; have := pd_n (m := a) c73; omega)
                  · refine wp_aload_n dX9_sum_76 rfl ?_
                    refine wp_iload_n dX9_sum_77 rfl ?_
                    refine wp_ineg dX9_sum_78 ?_
                    refine wp_callVv dX9_sum_79 mlX9_45 mvX9_put (S_X9_put cw3 (by have := pd_n (m := a) c73; omega)) rfl rfl (by omega) (by decide) rfl rfl rfl (Nat.le_of_ble_eq_true rfl) ?_
                    refine wp_loc [(0, .ref (adr X 5)), (1, .ref (adr X 1)), (2, .int (iI (6 - e))), (4, .int (iI 0)), (5, .int (iI z)), (6, .int (iI (lk t k)))] ⟨rfl, rfl, rfl, rfl, rfl, rfl, trivial⟩ ?_
                    first
                      | exact K82 _ (by rw [c73, sw_z]; exact cw3) tp3 at3 kp3 (by rw [c73, sw_z]; omega)
                      | exact K82 _ (by rw [sw_n c73, ← List.append_assoc]; exact cw3.put _) (tp3.sw Kp.pt) (by rw [ptH_at]; exact at3) (kp3.tr Kp.pt) (by rw [sw_n c73, ← List.append_assoc, List.length_append, List.length_singleton]; have := pd_n (m := a) c73; omega)
              · have hT : lk t k = 42 ∨ lk t k = 47 := by omega
                refine wp_iload dX9_sum_59 rfl ?_
                refine wp_goto 65 dX9_sum_61 (by decide) ?_
                refine wp_istore dX9_sum_65 (by decide) ?_
                refine wp_iload dX9_sum_67 rfl ?_
                refine wp_ifne 109 dX9_sum_69 (by decide) (by unfold InR; omega) (fun c69 => ?_) (fun c69 => ?_)
                · rw [jK_t (J1_t.mpr hT), prB_app_jK, app_app] at hV
                  have lin := lk_in tk hk (by omega : lk t k ≠ -1)
                  refine wp_aload_n dX9_sum_109 rfl ?_
                  refine wp_dup dX9_sum_110 rfl ?_
                  refine wp_getI dX9_sum_111 flX9_21 rfl rfl ?_
                  rw [at3]
                  refine wp_iconst dX9_sum_114 ?_
                  refine wp_iadd dX9_sum_115 ?_
                  refine wp_putI dX9_sum_116 plX9_21 rfl rfl ?_
                  refine wp_iinc dX9_sum_119 rfl (by decide) ?_
                  refine wp_goto 8 dX9_sum_122 (by decide) ?_
                  refine wp_loc [(0, .ref (adr X 5)), (1, .ref (adr X 1)), (2, .int (iI (6 - e))), (3, .int (iI a)), (4, .int (iI (lk t k))), (5, .int (iI (z + 1)))] ⟨rfl, rfl, rfl, rfl, rfl, rfl, trivial⟩ ?_
                  exact ih a (lk t k) u (sv m w1 v) n1 (n2 + 1) (sk t k + 1) (cd ++ sw c m) (z + 1) _ (by omega) (by omega) (by omega) (by omega) tp3.at (by rw [hI_same]; omega) (by rw [← List.append_assoc]; exact cw3.at) (by rw [pd_n (m := lk t k) (by omega)]; rw [List.length_append] at hl3 ⊢; rw [List.length_append]; rw [List.length_append] at hl3; omega) (kp3.tr kpAt) hV
                · exact absurd c69 (by omega)
          refine wp_iload dX9_sum_27 rfl ?_
          refine wp_ifeq 39 dX9_sum_29 (by decide) (by unfold InR; omega) (fun c29 => ?_) (fun c29 => ?_)
          · refine wp_loc [(0, .ref (adr X 5)), (1, .ref (adr X 1)), (2, .int (iI (6 - e))), (3, .int (iI a)), (5, .int (iI z))] ⟨rfl, rfl, rfl, rfl, rfl, trivial⟩ ?_
            first
              | exact K39 _ (by rw [c29, sw_z]; exact cw2) tp2 at2 kp2 (by omega)
              | exact K39 _ (by rw [sw_n c29, ← List.append_assoc]; exact cw2.put _) (tp2.sw Kp.pt) (by rw [ptH_at]; exact at2) (kp2.tr Kp.pt) (by omega)
          · refine wp_aload_n dX9_sum_32 rfl ?_
            refine wp_iload dX9_sum_33 rfl ?_
            refine wp_ineg dX9_sum_35 ?_
            refine wp_callVv dX9_sum_36 mlX9_45 mvX9_put (S_X9_put cw2 (by have := pd_n (m := m) c29; simp only [List.length_append] at hl2 ⊢; omega)) rfl rfl (by omega) (by decide) rfl rfl rfl (Nat.le_of_ble_eq_true rfl) ?_
            refine wp_loc [(0, .ref (adr X 5)), (1, .ref (adr X 1)), (2, .int (iI (6 - e))), (3, .int (iI a)), (5, .int (iI z))] ⟨rfl, rfl, rfl, rfl, rfl, trivial⟩ ?_
            first
              | exact K39 _ (by rw [c29, sw_z]; exact cw2) tp2 at2 kp2 (by omega)
              | exact K39 _ (by rw [sw_n c29, ← List.append_assoc]; exact cw2.put _) (tp2.sw Kp.pt) (by rw [ptH_at]; exact at2) (kp2.tr Kp.pt) (by omega)
        · refine wp_iconst dX9_sum_25 ?_
          exact wp_zret dX9_sum_26 rfl (by omega) (by
    obtain ⟨e2, hk⟩ := isR_no c22
    rw [hk] at at2
    rw [lpF_s, hk, prB_inl, prB_inl, app_inl] at hV
    subst hV
    exact ⟨rfl, at2, fun k9 c9 v9 e9 => (by cases e9), kp.tr kp2a⟩)
  refine wp_iconst dX9_sum_0 ?_
  refine wp_istore_n dX9_sum_1 (by decide) ?_
  refine wp_iconst dX9_sum_2 ?_
  refine wp_istore dX9_sum_3 (by decide) ?_
  refine wp_iconst dX9_sum_5 ?_
  refine wp_istore dX9_sum_6 (by decide) ?_
  refine wp_loc [(0, .ref (adr X 5)), (1, .ref (adr X 1)), (2, .int (iI (6 - e))), (3, .int (iI 0)), (4, .int (iI 0)), (5, .int (iI 0))] ⟨rfl, rfl, rfl, rfl, rfl, rfl, trivial⟩ ?_
  exact L 160 0 0 v0 v0 161 160 i [] 0 h (by omega) hl (by omega) (by omega) tp hi (by rw [List.append_nil]; exact cw) (by rw [List.append_nil, pd_z]; omega) (Kp.rf h) (by rw [app_nil, hV, smP_eq]; rfl)

theorem S_X9_sum {X : Cx} : ∀ (e : Nat), e ≤ 6 → SmC X e
  | 0, h => S_X9_sum0 h (S_X9_atom h (fun e1 q => by omega))
  | e + 1, h => S_X9_sum0 h (S_X9_atom h (fun e1 q => by obtain rfl : e = e1 := (by omega); exact S_X9_sum e (by omega)))

