/-! the WISH is read: CONDITION -/
theorem pdI_0 {m : Int} (h : (pd m : Int) = 0) : m = 0 := by unfold pd at h; split at h; assumption; omega
theorem pdI_1 {m : Int} (h : ¬ (pd m : Int) = 0) : m ≠ 0 := by unfold pd at h; split at h; omega; assumption

set_option maxRecDepth 20000 in
theorem S_X9_cond0 {X : Cx} {e : Nat} (he6 : e ≤ 6) (hU : UnC X e) : CdC X e := by
  intro h t w i f0 hrp
  obtain ⟨tp, tk, hi, hi1, hl, cw, hwl⟩ := hrp
  have t160 := tk.1
  have lb := lk_b tk hl
  have sb := sk_b t hl
  obtain ⟨V, hV⟩ : ∃ V, V = cdP t e f0 i := ⟨_, rfl⟩
  rw [← hV]
  refine spec_wp (Nat.le_of_ble_eq_true rfl) (by decide +kernel) ?_
  refine wp_loc [(0, .ref (adr X 5)), (1, .ref (adr X 1)), (2, .int (iI (6 - e))), (3, .int (iI (b2i (f0.isSome = true))))] ⟨rfl, rfl, rfl, rfl, trivial⟩ ?_
  have L : ∀ (n : Nat) (a m : Int) (u w1 : Vl) (f : Option Vl) (n1 n2 j : Nat) (cd : List Int) (z : Int) (h1 : Hp), (z + n = 160 ∧ 0 ≤ z ∧ z + 1 ≤ j) → (j ≤ t.length) → (t.length < n1 + j ∧ t.length < n2 + j) → ((a = 0 ∨ a = 124) ∧ (m = 0 ∨ m = 38)) → ((z = 0 → f = f0) ∧ (¬ z = 0 → f = none)) → (TPh h1 t) → (hI h1 1 2 = j) → (CW h1 (w ++ cd)) → ((w ++ cd).length + pd a + pd m ≤ j) → (Kp SW h h1) → (V = app cd (prB (lpF t J3 (unP t e) n1 f m w1 j) (jK t J4 (lpF t J4 (trP t e) n2 none) a u))) → WP X mX9_condition ((2 * e + 5)) 9 [(0, .ref (adr X 5)), (1, .ref (adr X 1)), (2, .int (iI (6 - e))), (3, .int (iI (b2i (f0.isSome = true)))), (4, .int (iI ((pd a : Nat) : Int))), (5, .int (iI ((pd m : Nat) : Int))), (6, .int (iI z))] [] h1 (PQ h w V) := by
    intro n
    induction n with
    | zero =>
      intro a m u w1 f n1 n2 j cd z h1 hz hj hf ham hf0 tp hi cw hlw kp hV
      exfalso; omega
    | succ n ih =>
      intro a m u w1 f n1 n2 j cd z h1 hz hj hf ham hf0 tp hi cw hlw kp hV
      obtain ⟨n1, rfl⟩ : ∃ q, n1 = q + 1 := ⟨n1 - 1, by omega⟩
      obtain ⟨n2, rfl⟩ : ∃ q, n2 = q + 1 := ⟨n2 - 1, by omega⟩
      have K34 : WP X mX9_condition (2 * e + 5) 34 [(0, .ref (adr X 5)), (1, .ref (adr X 1)), (2, .int (iI (6 - e))), (3, .int (iI (b2i (f0.isSome = true)))), (4, .int (iI ((pd a : Nat) : Int))), (5, .int (iI ((pd m : Nat) : Int))), (6, .int (iI z))] [.int (iI (b2i (f.isSome = true))), .int (iI (6 - e)), .ref (adr X 1), .ref (adr X 5)] h1 (PQ h w V) := by
        refine wp_callV dX9_condition_34 mlX9_53 mvX9_unit (hU h1 t (w ++ cd) j f ⟨tp, tk, hi, by omega, hj, cw, by omega⟩) rfl rfl (by omega) (by decide) rfl rfl rfl (Nat.le_of_ble_eq_true rfl) ?_
        rintro rv h2 ⟨rfl, at2, cw2, kp2a⟩
        refine wp_ifneb 42 dX9_condition_37 (by decide) (fun c37 => ?_) (fun c37 => ?_)
        · obtain ⟨k, y, hk0⟩ := isR_ok c37
          obtain ⟨c, v⟩ := y
          have pp := (unP_pp tk e f j hj).r hk0
          have hk : k ≤ t.length := pp.2.1
          have cw2 := cw2 k c v hk0
          rw [hk0] at at2
          have at2 : hI h2 1 2 = ((k : Nat) : Int) := at2
          have tp2 := tp.sw kp2a
          have kp2 := kp.tr kp2a
          have lb := lk_b tk hk
          have sb := sk_b t hk
          rw [lpF_s, hk0, prB_inr] at hV
          have hsl := sw_len c m
          rw [List.length_append] at hlw
          have hl2 : (w ++ cd ++ sw c m).length = w.length + cd.length + c.length + pd m := by simp only [List.length_append]; omega
          have K53 : ∀ h3 : Hp, CW h3 (w ++ cd ++ sw c m) → TPh h3 t → hI h3 1 2 = ((k : Nat) : Int) → Kp SW h h3 → (w ++ cd ++ sw c m).length + pd a ≤ k → WP X mX9_condition (2 * e + 5) 53 [(0, .ref (adr X 5)), (1, .ref (adr X 1)), (2, .int (iI (6 - e))), (3, .int (iI (b2i (f0.isSome = true)))), (4, .int (iI ((pd a : Nat) : Int))), (6, .int (iI z))] [] h3 (PQ h w V) := by
            intro h3 cw3 tp3 at3 kp3 hl3
            refine wp_aload_n dX9_condition_53 rfl ?_
            refine wp_callV dX9_condition_54 mlX9_32 mvX7_sign (S_X7_sign (i := k) tp3 tk at3 hk) rfl rfl (by omega) (by decide) rfl rfl rfl (Nat.le_of_ble_eq_true rfl) ?_
            rintro rv h8 ⟨rfl, rfl⟩
            have cw3 := cw3.at (v := ((sk t k : Nat) : Int))
            have tp3 := tp3.at (v := ((sk t k : Nat) : Int))
            have kp3 := kp3.tr (kpAt (v := ((sk t k : Nat) : Int)))
            have at3 : hI (sI h3 1 2 ((sk t k : Nat) : Int)) 1 2 = ((sk t k : Nat) : Int) := hI_same
            generalize sI h3 1 2 ((sk t k : Nat) : Int) = h3 at *
            have hl3 : (w ++ cd ++ sw c m).length + pd a ≤ sk t k := by omega
            refine wp_istore dX9_condition_57 (by decide) ?_
            refine wp_iload dX9_condition_59 rfl ?_
            refine wp_bipush dX9_condition_61 rfl ?_
            refine wp_icmpne 70 dX9_condition_63 (by decide) (by unfold InR; omega) (by unfold InR; omega) (fun c63 => ?_) (fun c63 => ?_)
            · refine wp_iconst dX9_condition_70 ?_
              refine wp_istore dX9_condition_71 (by decide) ?_
              refine wp_iload dX9_condition_73 rfl ?_
              refine wp_ifne 110 dX9_condition_75 (by decide) (by unfold InR; omega) (fun c75 => ?_) (fun c75 => ?_)
              · exact absurd rfl c75
              · rw [jK_f (by rw [J3_t]; exact c63), prB_inr] at hV
                have K89 : ∀ h4 : Hp, CW h4 (w ++ cd ++ sw (sw c m) a) → TPh h4 t → hI h4 1 2 = ((sk t k : Nat) : Int) → Kp SW h h4 → (w ++ cd ++ sw (sw c m) a).length ≤ sk t k → WP X mX9_condition (2 * e + 5) 89 [(0, .ref (adr X 5)), (1, .ref (adr X 1)), (2, .int (iI (6 - e))), (3, .int (iI (b2i (f0.isSome = true)))), (5, .int (iI 0)), (6, .int (iI z)), (7, .int (iI (lk t k)))] [] h4 (PQ h w V) := by
                  intro h4 cw4 tp4 at4 kp4 hl4
                  refine wp_iload dX9_condition_89 rfl ?_
                  refine wp_bipush dX9_condition_91 rfl ?_
                  refine wp_icmpne 100 dX9_condition_93 (by decide) (by unfold InR; omega) (by unfold InR; omega) (fun c93 => ?_) (fun c93 => ?_)
                  · rw [jK_f (by rw [lk_sk t hk, J4_t]; exact c93), app_inr, sk_sk t hk] at hV
                    refine wp_iconst dX9_condition_100 ?_
                    refine wp_istore dX9_condition_101 (by decide) ?_
                    refine wp_iload dX9_condition_103 rfl ?_
                    refine wp_ifne 110 dX9_condition_105 (by decide) (by unfold InR; omega) (fun c105 => ?_) (fun c105 => ?_)
                    · exact absurd rfl c105
                    · refine wp_iconst dX9_condition_108 ?_
                      exact wp_zret dX9_condition_109 rfl (by omega) (by
                      subst hV
                      exact ⟨rfl, at4, fun k9 c9 v9 e9 => (by cases e9; rw [← List.append_assoc]; exact cw4), kp4⟩)
                  · rw [jK_t (by rw [lk_sk t hk]; exact J4_t.mpr c93), app_app, lk_sk t hk, sk_sk t hk, c93, lpF_s] at hV
                    have lin := lk_in tk hk (by omega : lk t k ≠ -1)
                    refine wp_iconst dX9_condition_96 ?_
                    refine wp_goto 101 dX9_condition_97 (by decide) ?_
                    refine wp_istore dX9_condition_101 (by decide) ?_
                    refine wp_iload dX9_condition_103 rfl ?_
                    refine wp_ifne 110 dX9_condition_105 (by decide) (by unfold InR; omega) (fun c105 => ?_) (fun c105 => ?_)
                    · refine wp_aload_n dX9_condition_110 rfl ?_
                      refine wp_dup dX9_condition_111 rfl ?_
                      refine wp_getI dX9_condition_112 flX9_21 rfl rfl ?_
                      rw [at4]
                      refine wp_iconst dX9_condition_115 ?_
                      refine wp_iadd dX9_condition_116 ?_
                      refine wp_putI dX9_condition_117 plX9_21 rfl rfl ?_
                      refine wp_iinc dX9_condition_120 rfl (by decide) ?_
                      refine wp_goto 9 dX9_condition_123 (by decide) ?_
                      refine wp_loc [(0, .ref (adr X 5)), (1, .ref (adr X 1)), (2, .int (iI (6 - e))), (3, .int (iI (b2i (f0.isSome = true)))), (4, .int (iI ((pd 124 : Nat) : Int))), (5, .int (iI ((pd 0 : Nat) : Int))), (6, .int (iI (z + 1)))] ⟨rfl, rfl, rfl, rfl, rfl, rfl, rfl, trivial⟩ ?_
                      exact ih 124 0 (sv a u (sv m w1 v)) v0 none 161 n2 (sk t k + 1) (cd ++ sw (sw c m) a) (z + 1) _ (by omega) (by omega) (by omega) (by omega) ⟨fun q => by omega, fun q => rfl⟩ tp4.at (by rw [hI_same]; omega) (by rw [← List.append_assoc]; exact cw4.at) (by rw [pd_n (m := 124) (by decide), pd_z]; rw [List.length_append] at hl4 ⊢; rw [List.length_append]; rw [List.length_append] at hl4; omega) (kp4.tr kpAt) hV
                    · exact absurd c105 (by omega)
                refine wp_iload dX9_condition_78 rfl ?_
                refine wp_ifeq 89 dX9_condition_80 (by decide) (by have := pd_le a; unfold InR; omega) (fun c80 => ?_) (fun c80 => ?_)
                · refine wp_loc [(0, .ref (adr X 5)), (1, .ref (adr X 1)), (2, .int (iI (6 - e))), (3, .int (iI (b2i (f0.isSome = true)))), (5, .int (iI 0)), (6, .int (iI z)), (7, .int (iI (lk t k)))] ⟨rfl, rfl, rfl, rfl, rfl, rfl, rfl, trivial⟩ ?_
                  have c80 := pdI_0 c80
                  exact K89 _ (by rw [c80, sw_z]; exact cw3) tp3 at3 kp3 (by rw [c80, sw_z]; omega)
                · refine wp_aload_n dX9_condition_83 rfl ?_
                  refine wp_bipush dX9_condition_84 rfl ?_
                  refine wp_callVv dX9_condition_86 mlX9_45 mvX9_put (S_X9_put cw3 (by have := pd_n (pdI_1 c80); omega)) rfl rfl (by omega) (by decide) rfl rfl rfl (Nat.le_of_ble_eq_true rfl) ?_
                  refine wp_loc [(0, .ref (adr X 5)), (1, .ref (adr X 1)), (2, .int (iI (6 - e))), (3, .int (iI (b2i (f0.isSome = true)))), (5, .int (iI 0)), (6, .int (iI z)), (7, .int (iI (lk t k)))] ⟨rfl, rfl, rfl, rfl, rfl, rfl, rfl, trivial⟩ ?_
                  have c80 : a = 124 := by have := pdI_1 c80; omega
                  have p1 : pd a = 1 := by rw [c80]; rfl
                  exact K89 _ (by rw [c80, sw_n (by decide), ← List.append_assoc]; exact cw3.put _) (tp3.sw Kp.pt) (by rw [ptH_at]; exact at3) (kp3.tr Kp.pt) (by rw [List.length_append, sw_len]; rw [List.length_append] at hl3; omega)
            · refine wp_iconst dX9_condition_66 ?_
              refine wp_goto 71 dX9_condition_67 (by decide) ?_
              refine wp_istore dX9_condition_71 (by decide) ?_
              refine wp_iload dX9_condition_73 rfl ?_
              refine wp_ifne 110 dX9_condition_75 (by decide) (by unfold InR; omega) (fun c75 => ?_) (fun c75 => ?_)
              · rw [jK_t (J3_t.mpr c63), prB_app_jK, app_app, c63] at hV
                have lin := lk_in tk hk (by omega : lk t k ≠ -1)
                refine wp_aload_n dX9_condition_110 rfl ?_
                refine wp_dup dX9_condition_111 rfl ?_
                refine wp_getI dX9_condition_112 flX9_21 rfl rfl ?_
                rw [at3]
                refine wp_iconst dX9_condition_115 ?_
                refine wp_iadd dX9_condition_116 ?_
                refine wp_putI dX9_condition_117 plX9_21 rfl rfl ?_
                refine wp_iinc dX9_condition_120 rfl (by decide) ?_
                refine wp_goto 9 dX9_condition_123 (by decide) ?_
                refine wp_loc [(0, .ref (adr X 5)), (1, .ref (adr X 1)), (2, .int (iI (6 - e))), (3, .int (iI (b2i (f0.isSome = true)))), (4, .int (iI ((pd a : Nat) : Int))), (5, .int (iI ((pd 38 : Nat) : Int))), (6, .int (iI (z + 1)))] ⟨rfl, rfl, rfl, rfl, rfl, rfl, rfl, trivial⟩ ?_
                exact ih a 38 u (sv m w1 v) none n1 (n2 + 1) (sk t k + 1) (cd ++ sw c m) (z + 1) _ (by omega) (by omega) (by omega) (by omega) ⟨fun q => by omega, fun q => rfl⟩ tp3.at (by rw [hI_same]; omega) (by rw [← List.append_assoc]; exact cw3.at) (by rw [pd_n (m := 38) (by decide)]; rw [List.length_append] at hl3 ⊢; rw [List.length_append]; rw [List.length_append] at hl3; omega) (kp3.tr kpAt) hV
              · exact absurd c75 (by omega)
          refine wp_iload dX9_condition_42 rfl ?_
          refine wp_ifeq 53 dX9_condition_44 (by decide) (by have := pd_le m; unfold InR; omega) (fun c44 => ?_) (fun c44 => ?_)
          · refine wp_loc [(0, .ref (adr X 5)), (1, .ref (adr X 1)), (2, .int (iI (6 - e))), (3, .int (iI (b2i (f0.isSome = true)))), (4, .int (iI ((pd a : Nat) : Int))), (6, .int (iI z))] ⟨rfl, rfl, rfl, rfl, rfl, rfl, trivial⟩ ?_
            have c44 := pdI_0 c44
            exact K53 _ (by rw [c44, sw_z]; exact cw2) tp2 at2 kp2 (by omega)
          · refine wp_aload_n dX9_condition_47 rfl ?_
            refine wp_bipush dX9_condition_48 rfl ?_
            refine wp_callVv dX9_condition_50 mlX9_45 mvX9_put (S_X9_put cw2 (by have := pd_n (pdI_1 c44); simp only [List.length_append] at hl2 ⊢; omega)) rfl rfl (by omega) (by decide) rfl rfl rfl (Nat.le_of_ble_eq_true rfl) ?_
            refine wp_loc [(0, .ref (adr X 5)), (1, .ref (adr X 1)), (2, .int (iI (6 - e))), (3, .int (iI (b2i (f0.isSome = true)))), (4, .int (iI ((pd a : Nat) : Int))), (6, .int (iI z))] ⟨rfl, rfl, rfl, rfl, rfl, rfl, trivial⟩ ?_
            have c44 : m = 38 := by have := pdI_1 c44; omega
            have p1 : pd m = 1 := by rw [c44]; rfl
            exact K53 _ (by rw [c44, sw_n (by decide), ← List.append_assoc]; exact cw2.put _) (tp2.sw Kp.pt) (by rw [ptH_at]; exact at2) (kp2.tr Kp.pt) (by omega)
        · refine wp_iconst dX9_condition_40 ?_
          exact wp_zret dX9_condition_41 rfl (by omega) (by
          obtain ⟨e2, hk⟩ := isR_no c37
          rw [hk] at at2
          rw [lpF_s, hk, prB_inl, prB_inl, app_inl] at hV
          subst hV
          exact ⟨rfl, at2, fun k9 c9 v9 e9 => (by cases e9), kp.tr kp2a⟩)
      refine wp_iload dX9_condition_9 rfl ?_
      refine wp_sipush dX9_condition_11 rfl ?_
      refine wp_icmpge 126 dX9_condition_14 (by decide) (by unfold InR; omega) (by unfold InR; omega) (fun c14 => ?_) (fun c14 => ?_)
      · exact absurd c14 (by omega)
      · refine wp_aload_n dX9_condition_17 rfl ?_
        refine wp_aload_n dX9_condition_18 rfl ?_
        refine wp_iload_n dX9_condition_19 rfl ?_
        refine wp_iload_n dX9_condition_20 rfl ?_
        refine wp_ifeqb 33 dX9_condition_21 (by decide) (fun c21 => ?_) (fun c21 => ?_)
        · refine wp_iconst dX9_condition_33 ?_
          refine wp_loc [(0, .ref (adr X 5)), (1, .ref (adr X 1)), (2, .int (iI (6 - e))), (3, .int (iI (b2i (f0.isSome = true)))), (4, .int (iI ((pd a : Nat) : Int))), (5, .int (iI ((pd m : Nat) : Int))), (6, .int (iI z))] ⟨rfl, rfl, rfl, rfl, rfl, rfl, rfl, trivial⟩ ?_
          have fn : f = none := by
            have q : f0 = none := by cases f0 with
              | none => rfl
              | some u => exact absurd rfl c21
            by_cases zz : z = 0
            · rw [hf0.1 zz, q]
            · exact hf0.2 zz
          rw [fn] at K34
          exact K34
        · refine wp_iload dX9_condition_24 rfl ?_
          refine wp_ifne 33 dX9_condition_26 (by decide) (by unfold InR; omega) (fun c26 => ?_) (fun c26 => ?_)
          · refine wp_iconst dX9_condition_33 ?_
            refine wp_loc [(0, .ref (adr X 5)), (1, .ref (adr X 1)), (2, .int (iI (6 - e))), (3, .int (iI (b2i (f0.isSome = true)))), (4, .int (iI ((pd a : Nat) : Int))), (5, .int (iI ((pd m : Nat) : Int))), (6, .int (iI z))] ⟨rfl, rfl, rfl, rfl, rfl, rfl, rfl, trivial⟩ ?_
            have fn : f = none := hf0.2 c26
            rw [fn] at K34
            exact K34
          · refine wp_iconst dX9_condition_29 ?_
            refine wp_goto 34 dX9_condition_30 (by decide) ?_
            refine wp_loc [(0, .ref (adr X 5)), (1, .ref (adr X 1)), (2, .int (iI (6 - e))), (3, .int (iI (b2i (f0.isSome = true)))), (4, .int (iI ((pd a : Nat) : Int))), (5, .int (iI ((pd m : Nat) : Int))), (6, .int (iI z))] ⟨rfl, rfl, rfl, rfl, rfl, rfl, rfl, trivial⟩ ?_
            obtain ⟨u0, hu0⟩ : ∃ u0, f0 = some u0 := Option.isSome_iff_exists.mp c21
            have fn : f = some u0 := by rw [hf0.1 c26, hu0]
            rw [fn] at K34
            exact K34
  refine wp_iconst dX9_condition_0 ?_
  refine wp_istore dX9_condition_1 (by decide) ?_
  refine wp_iconst dX9_condition_3 ?_
  refine wp_istore dX9_condition_4 (by decide) ?_
  refine wp_iconst dX9_condition_6 ?_
  refine wp_istore dX9_condition_7 (by decide) ?_
  refine wp_loc [(0, .ref (adr X 5)), (1, .ref (adr X 1)), (2, .int (iI (6 - e))), (3, .int (iI (b2i (f0.isSome = true)))), (4, .int (iI ((pd 0 : Nat) : Int))), (5, .int (iI ((pd 0 : Nat) : Int))), (6, .int (iI 0))] ⟨rfl, rfl, rfl, rfl, rfl, rfl, rfl, trivial⟩ ?_
  exact L 160 0 0 v0 v0 f0 161 160 i [] 0 h (by omega) hl (by omega) (by omega) ⟨fun _ => rfl, fun q => absurd rfl q⟩ tp hi (by rw [List.append_nil]; exact cw) (by rw [List.append_nil, pd_z]; omega) (Kp.rf h) (by rw [app_nil, hV]; rfl)

theorem S_X9_uc {X : Cx} : ∀ (e : Nat), e ≤ 6 → UnC X e ∧ CdC X e
  | 0, h => by
    have u := S_X9_unit0 (X := X) h (S_X9_sum 0 h) (fun e1 q => by omega) (fun e1 q => by omega)
    exact ⟨u, S_X9_cond0 h u⟩
  | e + 1, h => by
    have r := S_X9_uc (X := X) e (by omega)
    have u := S_X9_unit0 (X := X) h (S_X9_sum (e + 1) h) (fun e1 q => by obtain rfl : e = e1 := (by omega); exact r.1) (fun e1 q => by obtain rfl : e = e1 := (by omega); exact r.2)
    exact ⟨u, S_X9_cond0 h u⟩

