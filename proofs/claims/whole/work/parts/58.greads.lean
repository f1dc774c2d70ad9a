/-! the GARDEN is read -/
def XOK (X : Cx) : Prop := (101, 5, fun j : Nat => tLo j) ∈ X.2.2.2.2 ∧ (102, 5, fun j : Nat => tHi j) ∈ X.2.2.2.2 ∧ (103, 2, fun j : Nat => cLo j) ∈ X.2.2.2.2 ∧ (104, 2, fun j : Nat => cHi j) ∈ X.2.2.2.2
def Sr (c j : Nat) : Prop := (c = 1 ∧ j = 2) ∨ c = 4
theorem TPh.kp {S : Nat → Nat → Prop} {h h' : Hp} {t : List Int} (tp : TPh h t) (k : Kp S h h') (hs : ∀ c j, S c j → ¬ (c = 2 ∨ (c = 1 ∧ j = 1))) : TPh h' t := ⟨by rw [k.1 1 1 (fun q => hs 1 1 q (by omega))]; exact tp.1, fun i hi => by rw [k.1 2 i (fun q => hs 2 i q (by omega))]; exact tp.2 i hi⟩
theorem sls_no {i : Nat} (hi : i < 4) : ∀ x ∈ sls i, x ≠ -1 := by
  have h1 : ∀ i : Fin 4, ∀ x ∈ sls i, x ≠ -1 := by decide
  exact h1 ⟨i, hi⟩

theorem TPh.oth {h : Hp} {t : List Int} (tp : TPh h t) {c j : Nat} {v : Int} (h1 : c ≠ 2) (h2 : c ≠ 1) : TPh (sI h c j v) t := ⟨by rw [hI_sI, if_neg (by omega)]; exact tp.1, fun i hi => by rw [hI_sI, if_neg (by omega)]; exact tp.2 i hi⟩

set_option maxRecDepth 20000 in
theorem S_X4_readItems {X : Cx} {h : Hp} {t : List Int} {s qa qb i0 : Nat} {lo up v0 : Int → Int} {V : Nat ⊕ (Nat × (Int → Int))} (hs : s < 2) (ha : (qa, sln s, fun j : Nat => lo j) ∈ X.2.2.2.2) (hb : (qb, sln s, fun j : Nat => up j) ∈ X.2.2.2.2) (hlo : ∀ j, InR (lo j) ∧ InR (up j)) (tp : TPh h t) (tk : TOK t) (hi : hI h 1 2 = i0) (hl : i0 ≤ t.length) (iv : ∀ i : Nat, i < sln s → hI h 4 i = v0 i) (hV0 : V = itF t (sls s) lo up (sln s + 1) 0 v0 i0) : Spec X mX4_readItems 12 [.ref (adr X 3), .ref (adr X 1), .ref (adr X (110 + s)), .ref (adr X qa), .ref (adr X qb)] h (fun rv h' => rv = some (.int (iI (b2i (V.isRight = true)))) ∧ hI h' 1 2 = psI V ∧ (∀ k w, V = .inr (k, w) → ∀ i : Nat, i < sln s → hI h' 4 i = w i) ∧ Kp Sr h h') := by
  have sl := sls_len (i := s) (by omega)
  have sl5 : sln s ≤ 5 := by rcases (show s = 0 ∨ s = 1 by omega) with rfl | rfl <;> decide
  refine spec_wp (Nat.le_of_ble_eq_true rfl) (by decide +kernel) ?_
  refine wp_loc [(0, .ref (adr X 3)), (1, .ref (adr X 1)), (2, .ref (adr X (110 + s))), (3, .ref (adr X qa)), (4, .ref (adr X qb))] ⟨rfl, rfl, rfl, rfl, rfl, trivial⟩ ?_
  have L : ∀ (n : Nat) (j : Nat) (d z : Int) (v : Int → Int) (h1 : Hp), (z + n = sln s + 1 ∧ 0 ≤ z) → (j ≤ t.length) → (TPh h1 t) → (hI h1 1 2 = j) → (∀ i : Nat, i < sln s → hI h1 4 i = v i) → (Kp Sr h h1) → (V = itF t (sls s) lo up n d v j) → WP X mX4_readItems 12 6 [(0, .ref (adr X 3)), (1, .ref (adr X 1)), (2, .ref (adr X (110 + s))), (3, .ref (adr X qa)), (4, .ref (adr X qb)), (5, .int (iI d)), (6, .int (iI z))] [] h1 (fun rv h' => rv = some (.int (iI (b2i (V.isRight = true)))) ∧ hI h' 1 2 = psI V ∧ (∀ k w, V = .inr (k, w) → ∀ i : Nat, i < sln s → hI h' 4 i = w i) ∧ Kp Sr h h') := by
    intro n
    induction n with
    | zero =>
      intro j d z v h1 hn hj tp hi iv kp hV
      refine wp_iload dX4_readItems_6 rfl ?_
      refine wp_aload_n dX4_readItems_8 rfl ?_
      refine wp_callX (i := s) (by omega) dX4_readItems_9 mlX4_111 mvJ0_length_8abf5 (S_J0_length_8abf5 (by omega)) rfl rfl (by decide) (by decide) rfl (Nat.le_of_ble_eq_true rfl) ?_
      refine wp_icmpgt 169 dX4_readItems_12 (by decide) (by unfold InR; omega) (by unfold InR; omega) (fun c12 => ?_) (fun c12 => ?_)
      · refine wp_iconst dX4_readItems_169 ?_
        exact wp_zret dX4_readItems_170 rfl (by omega) (by subst hV; exact ⟨rfl, hi, fun k w e => (by cases e; exact iv), kp⟩)
      · exact absurd c12 (by omega)
    | succ n ih =>
      intro j d z v h1 hn hj tp hi iv kp hV
      refine wp_iload dX4_readItems_6 rfl ?_
      refine wp_aload_n dX4_readItems_8 rfl ?_
      refine wp_callX (i := s) (by omega) dX4_readItems_9 mlX4_111 mvJ0_length_8abf5 (S_J0_length_8abf5 (by omega)) rfl rfl (by decide) (by decide) rfl (Nat.le_of_ble_eq_true rfl) ?_
      refine wp_icmpgt 169 dX4_readItems_12 (by decide) (by unfold InR; omega) (by unfold InR; omega) (fun c12 => ?_) (fun c12 => ?_)
      · exact absurd c12 (by omega)
      · have sb := sk_b t hj
        have lb := lk_b tk hj
        have hx := ixF_b (lk t j) (sls s) 0
        unfold itF at hV
        obtain ⟨x, ex⟩ : ∃ x : Int, x = (ixF (lk t j) (sls s) 0) := ⟨_, rfl⟩
        rw [← ex] at hV hx
        refine wp_aload_n dX4_readItems_15 rfl ?_
        refine wp_callV dX4_readItems_16 mlX4_38 mvX7_sign (S_X7_sign tp tk hi hj) rfl rfl (by decide) (by decide) rfl rfl rfl (Nat.le_of_ble_eq_true rfl) ?_
        rintro rv h2 ⟨rfl, rfl⟩
        refine wp_istore dX4_readItems_19 (by decide) ?_
        refine wp_iload dX4_readItems_21 rfl ?_
        refine wp_iconst dX4_readItems_23 ?_
        refine wp_icmpne 31 dX4_readItems_24 (by decide) (by unfold InR; omega) (by unfold InR; omega) (fun c24 => ?_) (fun c24 => ?_)
        · have lin := lk_in tk hj c24
          have ch := chr_v (c := lk t j) (by omega) (by omega)
          refine wp_aload_n dX4_readItems_31 rfl ?_
          refine wp_iload dX4_readItems_32 rfl ?_
          refine wp_i2c dX4_readItems_34 ?_
          rw [ch.2]
          refine wp_callX (i := s) (by omega) dX4_readItems_35 mlX4_115 mvJ0_indexOf_0f7a4 (S_J0_indexOf_0f7a4 (by omega) (by omega)) rfl rfl (by decide) (by decide) rfl (Nat.le_of_ble_eq_true rfl) ?_
          rw [← ex]
          refine wp_istore dX4_readItems_38 (by decide) ?_
          refine wp_iload dX4_readItems_40 rfl ?_
          refine wp_iflt 70 dX4_readItems_42 (by decide) (by unfold InR; omega) (fun c42 => ?_) (fun c42 => ?_)
          · refine wp_iconst dX4_readItems_70 ?_
            exact wp_zret dX4_readItems_71 rfl (by omega) (by
    rw [if_pos (by omega)] at hV
    subst hV
    exact ⟨rfl, hI_same, fun k w e i hi => by cases e; rw [hI_sI, if_neg (by omega)]; exact iv i hi, kp.tr (Kp.sI (Or.inl ⟨rfl, rfl⟩))⟩)
          · refine wp_iload dX4_readItems_45 rfl ?_
            refine wp_aload_n dX4_readItems_47 rfl ?_
            refine wp_xlen dX4_readItems_48 ha ?_
            refine wp_icmpge 70 dX4_readItems_49 (by decide) (by unfold InR; omega) (by unfold InR; omega) (fun c49 => ?_) (fun c49 => ?_)
            · exact absurd c49 (by omega)
            · refine wp_iload dX4_readItems_52 rfl ?_
              refine wp_aload dX4_readItems_54 rfl ?_
              refine wp_xlen dX4_readItems_56 hb ?_
              refine wp_icmpge 70 dX4_readItems_57 (by decide) (by unfold InR; omega) (by unfold InR; omega) (fun c57 => ?_) (fun c57 => ?_)
              · exact absurd c57 (by omega)
              · refine wp_iload dX4_readItems_60 rfl ?_
                refine wp_aload_n dX4_readItems_62 rfl ?_
                refine wp_getC dX4_readItems_63 flX4_9 rfl rfl ?_
                refine wp_alen dX4_readItems_66 (by first | rfl | exact gs1 hG | exact gs2 hG | exact gs3 hG | exact gs4 hG | exact ws1 hW | exact ws2 hW | assumption) (by decide) ?_
                refine wp_icmplt 72 dX4_readItems_67 (by decide) (by unfold InR; omega) (by unfold InR; omega) (fun c67 => ?_) (fun c67 => ?_)
                · have b1 := iAnd_b (iShr d x) (b := 1) (by omega) (by omega)
                  rw [if_neg (by omega)] at hV
                  refine wp_iload dX4_readItems_72 rfl ?_
                  refine wp_iload dX4_readItems_74 rfl ?_
                  refine wp_ishr dX4_readItems_76 ?_
                  refine wp_iconst dX4_readItems_77 ?_
                  refine wp_iand dX4_readItems_78 ?_
                  refine wp_ifeq 84 dX4_readItems_79 (by decide) (by unfold InR; omega) (fun c79 => ?_) (fun c79 => ?_)
                  · rw [if_neg (by omega)] at hV
                    refine wp_iload dX4_readItems_84 rfl ?_
                    refine wp_iconst dX4_readItems_86 ?_
                    refine wp_iload dX4_readItems_87 rfl ?_
                    refine wp_ishl dX4_readItems_89 ?_
                    refine wp_ior dX4_readItems_90 ?_
                    refine wp_istore dX4_readItems_91 (by decide) ?_
                    refine wp_aload_n dX4_readItems_93 rfl ?_
                    refine wp_dup dX4_readItems_94 rfl ?_
                    refine wp_getI dX4_readItems_95 flX4_24 rfl rfl ?_
                    rw [hI_same]
                    refine wp_iconst dX4_readItems_98 ?_
                    refine wp_iadd dX4_readItems_99 ?_
                    refine wp_putI dX4_readItems_100 plX4_24 rfl rfl ?_
                    rw [sI_sI]
                    refine wp_aload_n dX4_readItems_103 rfl ?_
                    refine wp_callV dX4_readItems_104 mlX4_38 mvX7_sign (S_X7_sign (i := sk t j + 1) tp.at tk (by rw [hI_same]; omega) (by omega)) rfl rfl (by decide) (by decide) rfl rfl rfl (Nat.le_of_ble_eq_true rfl) ?_
                    rintro rv h2 ⟨rfl, rfl⟩
                    rw [sI_sI]
                    have s2 := sk_b t (i := sk t j + 1) (by omega)
                    refine wp_pop dX4_readItems_107 rfl ?_
                    refine wp_aload_n dX4_readItems_108 rfl ?_
                    refine wp_iconst dX4_readItems_109 ?_
                    refine wp_callV dX4_readItems_110 mlX4_63 mvX7_number (S_X7_number (m := 2) tp.at tk hI_same s2.2 (by decide)) rfl rfl (by decide) (by decide) rfl rfl rfl (Nat.le_of_ble_eq_true rfl) ?_
                    rintro rv h2 hq
                    obtain ⟨rfl, rfl⟩ := nmQ_f hq
                    rw [sI_sI]
                    have nb := nmV_b tk (m := 2) (by decide) s2.2
                    refine wp_istore dX4_readItems_113 (by decide) ?_
                    refine wp_iload dX4_readItems_115 rfl ?_
                    refine wp_iconst dX4_readItems_117 ?_
                    refine wp_icmpne 123 dX4_readItems_118 (by decide) (by unfold InR; omega) (by unfold InR; omega) (fun c118 => ?_) (fun c118 => ?_)
                    · obtain ⟨k2, y, he⟩ := nmV_ok c118
                      have hr := nmr tk (by decide) s2.2 he
                      rw [he] at hV nb ⊢
                      dsimp only [nmV, psI] at hV nb ⊢
                      refine wp_iload dX4_readItems_123 rfl ?_
                      refine wp_aload_n dX4_readItems_125 rfl ?_
                      refine wp_iload dX4_readItems_126 rfl ?_
                      refine wp_xald dX4_readItems_128 ha (by omega) (by omega) (by omega) ?_
                      rw [show ((x.toNat : Nat) : Int) = x by omega]
                      refine wp_icmplt 142 dX4_readItems_129 (by decide) (by unfold InR; omega) (hlo x).1 (fun c129 => ?_) (fun c129 => ?_)
                      · refine wp_aload_n dX4_readItems_142 rfl ?_
                        refine wp_dup dX4_readItems_143 rfl ?_
                        refine wp_getI dX4_readItems_144 flX4_24 rfl rfl ?_
                        rw [hI_same]
                        refine wp_iconst dX4_readItems_147 ?_
                        refine wp_isub dX4_readItems_148 ?_
                        refine wp_putI dX4_readItems_149 plX4_24 rfl rfl ?_
                        rw [sI_sI]
                        refine wp_iconst dX4_readItems_152 ?_
                        exact wp_zret dX4_readItems_153 rfl (by omega) (by
                        rw [if_pos (by omega)] at hV
                        subst hV
                        exact ⟨rfl, by rw [hI_same]; show (k2 : Int) - 1 = ((k2 - 1 : Nat) : Int); omega, fun k w e => (by cases e), kp.tr (Kp.sI (Or.inl ⟨rfl, rfl⟩))⟩)
                      · refine wp_iload dX4_readItems_132 rfl ?_
                        refine wp_aload dX4_readItems_134 rfl ?_
                        refine wp_iload dX4_readItems_136 rfl ?_
                        refine wp_xald dX4_readItems_138 hb (by omega) (by omega) (by omega) ?_
                        rw [show ((x.toNat : Nat) : Int) = x by omega]
                        refine wp_icmple 154 dX4_readItems_139 (by decide) (by unfold InR; omega) (hlo x).2 (fun c139 => ?_) (fun c139 => ?_)
                        · rw [if_neg (by omega)] at hV
                          refine wp_aload_n dX4_readItems_154 rfl ?_
                          refine wp_getC dX4_readItems_155 flX4_9 rfl rfl ?_
                          refine wp_iload dX4_readItems_158 rfl ?_
                          refine wp_iload dX4_readItems_160 rfl ?_
                          refine wp_iast dX4_readItems_162 (by first | rfl | exact gs1 hG | exact gs2 hG | exact gs3 hG | exact gs4 hG | exact ws1 hW | exact ws2 hW | assumption) (by omega) (by omega) ?_
                          refine wp_iinc dX4_readItems_163 rfl (by decide) ?_
                          refine wp_goto 6 dX4_readItems_166 (by decide) ?_
                          refine wp_loc [(0, .ref (adr X 3)), (1, .ref (adr X 1)), (2, .ref (adr X (110 + s))), (3, .ref (adr X qa)), (4, .ref (adr X qb)), (5, .int (iI (iOr d (iShl 1 x)))), (6, .int (iI (z + 1)))] ⟨rfl, rfl, rfl, rfl, rfl, rfl, rfl, trivial⟩ ?_
                          exact ih k2 _ (z + 1) (upv v x y) _ (by omega) hr.2.1 (tp.at.oth (by decide) (by decide)) (by rw [hI_sI, if_neg (by omega), hI_same]) (fun i hi => by
                            rw [hI_sI]
                            unfold upv
                            by_cases q : i = x.toNat
                            · rw [if_pos ⟨rfl, q⟩, if_pos (by omega)]
                            · rw [if_neg (fun w => q w.2), if_neg (by omega), hI_sI, if_neg (by omega)]; exact iv i hi) ((kp.tr (Kp.sI (Or.inl ⟨rfl, rfl⟩))).tr (Kp.sI (Or.inr rfl))) hV
                        · refine wp_aload_n dX4_readItems_142 rfl ?_
                          refine wp_dup dX4_readItems_143 rfl ?_
                          refine wp_getI dX4_readItems_144 flX4_24 rfl rfl ?_
                          rw [hI_same]
                          refine wp_iconst dX4_readItems_147 ?_
                          refine wp_isub dX4_readItems_148 ?_
                          refine wp_putI dX4_readItems_149 plX4_24 rfl rfl ?_
                          rw [sI_sI]
                          refine wp_iconst dX4_readItems_152 ?_
                          exact wp_zret dX4_readItems_153 rfl (by omega) (by
                        rw [if_pos (by omega)] at hV
                        subst hV
                        exact ⟨rfl, by rw [hI_same]; show (k2 : Int) - 1 = ((k2 - 1 : Nat) : Int); omega, fun k w e => (by cases e), kp.tr (Kp.sI (Or.inl ⟨rfl, rfl⟩))⟩)
                    · refine wp_iconst dX4_readItems_121 ?_
                      exact wp_zret dX4_readItems_122 rfl (by omega) (by
                      obtain ⟨e, he⟩ := nmV_no tk (by decide) s2.2 c118
                      rw [he] at hV
                      subst hV
                      exact ⟨rfl, by rw [hI_same, he]; rfl, fun k w e => (by cases e), kp.tr (Kp.sI (Or.inl ⟨rfl, rfl⟩))⟩)
                  · refine wp_iconst dX4_readItems_82 ?_
                    exact wp_zret dX4_readItems_83 rfl (by omega) (by
                    rw [if_pos c79] at hV
                    subst hV
                    exact ⟨rfl, hI_same, fun k w e => (by cases e), kp.tr (Kp.sI (Or.inl ⟨rfl, rfl⟩))⟩)
                · exact absurd c67 (by omega)
        · have ex2 : x = -1 := ex.trans (ixF_no (fun x hx => by rw [c24]; exact sls_no (by omega) x hx))
          refine wp_iconst dX4_readItems_27 ?_
          rw [← ex2]
          refine wp_goto 38 dX4_readItems_28 (by decide) ?_
          refine wp_istore dX4_readItems_38 (by decide) ?_
          refine wp_iload dX4_readItems_40 rfl ?_
          refine wp_iflt 70 dX4_readItems_42 (by decide) (by unfold InR; omega) (fun c42 => ?_) (fun c42 => ?_)
          · refine wp_iconst dX4_readItems_70 ?_
            exact wp_zret dX4_readItems_71 rfl (by omega) (by
    rw [if_pos (by omega)] at hV
    subst hV
    exact ⟨rfl, hI_same, fun k w e i hi => by cases e; rw [hI_sI, if_neg (by omega)]; exact iv i hi, kp.tr (Kp.sI (Or.inl ⟨rfl, rfl⟩))⟩)
          · refine wp_iload dX4_readItems_45 rfl ?_
            refine wp_aload_n dX4_readItems_47 rfl ?_
            refine wp_xlen dX4_readItems_48 ha ?_
            refine wp_icmpge 70 dX4_readItems_49 (by decide) (by unfold InR; omega) (by unfold InR; omega) (fun c49 => ?_) (fun c49 => ?_)
            · exact absurd c49 (by omega)
            · refine wp_iload dX4_readItems_52 rfl ?_
              refine wp_aload dX4_readItems_54 rfl ?_
              refine wp_xlen dX4_readItems_56 hb ?_
              refine wp_icmpge 70 dX4_readItems_57 (by decide) (by unfold InR; omega) (by unfold InR; omega) (fun c57 => ?_) (fun c57 => ?_)
              · exact absurd c57 (by omega)
              · refine wp_iload dX4_readItems_60 rfl ?_
                refine wp_aload_n dX4_readItems_62 rfl ?_
                refine wp_getC dX4_readItems_63 flX4_9 rfl rfl ?_
                refine wp_alen dX4_readItems_66 (by first | rfl | exact gs1 hG | exact gs2 hG | exact gs3 hG | exact gs4 hG | exact ws1 hW | exact ws2 hW | assumption) (by decide) ?_
                refine wp_icmplt 72 dX4_readItems_67 (by decide) (by unfold InR; omega) (by unfold InR; omega) (fun c67 => ?_) (fun c67 => ?_)
                · have b1 := iAnd_b (iShr d x) (b := 1) (by omega) (by omega)
                  rw [if_neg (by omega)] at hV
                  refine wp_iload dX4_readItems_72 rfl ?_
                  refine wp_iload dX4_readItems_74 rfl ?_
                  refine wp_ishr dX4_readItems_76 ?_
                  refine wp_iconst dX4_readItems_77 ?_
                  refine wp_iand dX4_readItems_78 ?_
                  refine wp_ifeq 84 dX4_readItems_79 (by decide) (by unfold InR; omega) (fun c79 => ?_) (fun c79 => ?_)
                  · rw [if_neg (by omega)] at hV
                    refine wp_iload dX4_readItems_84 rfl ?_
                    refine wp_iconst dX4_readItems_86 ?_
                    refine wp_iload dX4_readItems_87 rfl ?_
                    refine wp_ishl dX4_readItems_89 ?_
                    refine wp_ior dX4_readItems_90 ?_
                    refine wp_istore dX4_readItems_91 (by decide) ?_
                    refine wp_aload_n dX4_readItems_93 rfl ?_
                    refine wp_dup dX4_readItems_94 rfl ?_
                    refine wp_getI dX4_readItems_95 flX4_24 rfl rfl ?_
                    rw [hI_same]
                    refine wp_iconst dX4_readItems_98 ?_
                    refine wp_iadd dX4_readItems_99 ?_
                    refine wp_putI dX4_readItems_100 plX4_24 rfl rfl ?_
                    rw [sI_sI]
                    refine wp_aload_n dX4_readItems_103 rfl ?_
                    refine wp_callV dX4_readItems_104 mlX4_38 mvX7_sign (S_X7_sign (i := sk t j + 1) tp.at tk (by rw [hI_same]; omega) (by omega)) rfl rfl (by decide) (by decide) rfl rfl rfl (Nat.le_of_ble_eq_true rfl) ?_
                    rintro rv h2 ⟨rfl, rfl⟩
                    rw [sI_sI]
                    have s2 := sk_b t (i := sk t j + 1) (by omega)
                    refine wp_pop dX4_readItems_107 rfl ?_
                    refine wp_aload_n dX4_readItems_108 rfl ?_
                    refine wp_iconst dX4_readItems_109 ?_
                    refine wp_callV dX4_readItems_110 mlX4_63 mvX7_number (S_X7_number (m := 2) tp.at tk hI_same s2.2 (by decide)) rfl rfl (by decide) (by decide) rfl rfl rfl (Nat.le_of_ble_eq_true rfl) ?_
                    rintro rv h2 hq
                    obtain ⟨rfl, rfl⟩ := nmQ_f hq
                    rw [sI_sI]
                    have nb := nmV_b tk (m := 2) (by decide) s2.2
                    refine wp_istore dX4_readItems_113 (by decide) ?_
                    refine wp_iload dX4_readItems_115 rfl ?_
                    refine wp_iconst dX4_readItems_117 ?_
                    refine wp_icmpne 123 dX4_readItems_118 (by decide) (by unfold InR; omega) (by unfold InR; omega) (fun c118 => ?_) (fun c118 => ?_)
                    · obtain ⟨k2, y, he⟩ := nmV_ok c118
                      have hr := nmr tk (by decide) s2.2 he
                      rw [he] at hV nb ⊢
                      dsimp only [nmV, psI] at hV nb ⊢
                      refine wp_iload dX4_readItems_123 rfl ?_
                      refine wp_aload_n dX4_readItems_125 rfl ?_
                      refine wp_iload dX4_readItems_126 rfl ?_
                      refine wp_xald dX4_readItems_128 ha (by omega) (by omega) (by omega) ?_
                      rw [show ((x.toNat : Nat) : Int) = x by omega]
                      refine wp_icmplt 142 dX4_readItems_129 (by decide) (by unfold InR; omega) (hlo x).1 (fun c129 => ?_) (fun c129 => ?_)
                      · refine wp_aload_n dX4_readItems_142 rfl ?_
                        refine wp_dup dX4_readItems_143 rfl ?_
                        refine wp_getI dX4_readItems_144 flX4_24 rfl rfl ?_
                        rw [hI_same]
                        refine wp_iconst dX4_readItems_147 ?_
                        refine wp_isub dX4_readItems_148 ?_
                        refine wp_putI dX4_readItems_149 plX4_24 rfl rfl ?_
                        rw [sI_sI]
                        refine wp_iconst dX4_readItems_152 ?_
                        exact wp_zret dX4_readItems_153 rfl (by omega) (by
                        rw [if_pos (by omega)] at hV
                        subst hV
                        exact ⟨rfl, by rw [hI_same]; show (k2 : Int) - 1 = ((k2 - 1 : Nat) : Int); omega, fun k w e => (by cases e), kp.tr (Kp.sI (Or.inl ⟨rfl, rfl⟩))⟩)
                      · refine wp_iload dX4_readItems_132 rfl ?_
                        refine wp_aload dX4_readItems_134 rfl ?_
                        refine wp_iload dX4_readItems_136 rfl ?_
                        refine wp_xald dX4_readItems_138 hb (by omega) (by omega) (by omega) ?_
                        rw [show ((x.toNat : Nat) : Int) = x by omega]
                        refine wp_icmple 154 dX4_readItems_139 (by decide) (by unfold InR; omega) (hlo x).2 (fun c139 => ?_) (fun c139 => ?_)
                        · rw [if_neg (by omega)] at hV
                          refine wp_aload_n dX4_readItems_154 rfl ?_
                          refine wp_getC dX4_readItems_155 flX4_9 rfl rfl ?_
                          refine wp_iload dX4_readItems_158 rfl ?_
                          refine wp_iload dX4_readItems_160 rfl ?_
                          refine wp_iast dX4_readItems_162 (by first | rfl | exact gs1 hG | exact gs2 hG | exact gs3 hG | exact gs4 hG | exact ws1 hW | exact ws2 hW | assumption) (by omega) (by omega) ?_
                          refine wp_iinc dX4_readItems_163 rfl (by decide) ?_
                          refine wp_goto 6 dX4_readItems_166 (by decide) ?_
                          refine wp_loc [(0, .ref (adr X 3)), (1, .ref (adr X 1)), (2, .ref (adr X (110 + s))), (3, .ref (adr X qa)), (4, .ref (adr X qb)), (5, .int (iI (iOr d (iShl 1 x)))), (6, .int (iI (z + 1)))] ⟨rfl, rfl, rfl, rfl, rfl, rfl, rfl, trivial⟩ ?_
                          exact ih k2 _ (z + 1) (upv v x y) _ (by omega) hr.2.1 (tp.at.oth (by decide) (by decide)) (by rw [hI_sI, if_neg (by omega), hI_same]) (fun i hi => by
                            rw [hI_sI]
                            unfold upv
                            by_cases q : i = x.toNat
                            · rw [if_pos ⟨rfl, q⟩, if_pos (by omega)]
                            · rw [if_neg (fun w => q w.2), if_neg (by omega), hI_sI, if_neg (by omega)]; exact iv i hi) ((kp.tr (Kp.sI (Or.inl ⟨rfl, rfl⟩))).tr (Kp.sI (Or.inr rfl))) hV
                        · refine wp_aload_n dX4_readItems_142 rfl ?_
                          refine wp_dup dX4_readItems_143 rfl ?_
                          refine wp_getI dX4_readItems_144 flX4_24 rfl rfl ?_
                          rw [hI_same]
                          refine wp_iconst dX4_readItems_147 ?_
                          refine wp_isub dX4_readItems_148 ?_
                          refine wp_putI dX4_readItems_149 plX4_24 rfl rfl ?_
                          rw [sI_sI]
                          refine wp_iconst dX4_readItems_152 ?_
                          exact wp_zret dX4_readItems_153 rfl (by omega) (by
                        rw [if_pos (by omega)] at hV
                        subst hV
                        exact ⟨rfl, by rw [hI_same]; show (k2 : Int) - 1 = ((k2 - 1 : Nat) : Int); omega, fun k w e => (by cases e), kp.tr (Kp.sI (Or.inl ⟨rfl, rfl⟩))⟩)
                    · refine wp_iconst dX4_readItems_121 ?_
                      exact wp_zret dX4_readItems_122 rfl (by omega) (by
                      obtain ⟨e, he⟩ := nmV_no tk (by decide) s2.2 c118
                      rw [he] at hV
                      subst hV
                      exact ⟨rfl, by rw [hI_same, he]; rfl, fun k w e => (by cases e), kp.tr (Kp.sI (Or.inl ⟨rfl, rfl⟩))⟩)
                  · refine wp_iconst dX4_readItems_82 ?_
                    exact wp_zret dX4_readItems_83 rfl (by omega) (by
                    rw [if_pos c79] at hV
                    subst hV
                    exact ⟨rfl, hI_same, fun k w e => (by cases e), kp.tr (Kp.sI (Or.inl ⟨rfl, rfl⟩))⟩)
                · exact absurd c67 (by omega)
  refine wp_iconst dX4_readItems_0 ?_
  refine wp_istore dX4_readItems_1 (by decide) ?_
  refine wp_iconst dX4_readItems_3 ?_
  refine wp_istore dX4_readItems_4 (by decide) ?_
  refine wp_loc [(0, .ref (adr X 3)), (1, .ref (adr X 1)), (2, .ref (adr X (110 + s))), (3, .ref (adr X qa)), (4, .ref (adr X qb)), (5, .int (iI 0)), (6, .int (iI 0))] ⟨rfl, rfl, rfl, rfl, rfl, rfl, rfl, trivial⟩ ?_
  exact L (sln s + 1) i0 0 0 v0 h (by omega) hl tp hi iv (Kp.rf h) hV0

