/-! the GARDEN is read: ground, table, cards -/
def SG (a c j : Nat) : Prop := (c = 1 ∧ j = 2) ∨ c = 3 ∨ c = 4 ∨ (a ≤ c ∧ c ≤ a + 4)
def HB (h : Hp) (a : Nat) : Prop := ∀ i : Nat, i < 24 → 0 ≤ hI h (a + 1) i ∧ hI h (a + 1) i ≤ 99
/-- the draft holds what is read -/
def DG (h : Hp) (a : Nat) (q : GS) : Prop := hI h a 4 = q.1.length ∧ hI h a 5 = gIt q 0 ∧ hI h a 6 = q.2.2.length ∧ (∀ i : Nat, i < q.1.length → hI h (a + 1) i = q.1.getD i 0) ∧ (∀ l : Nat, l < 4 → hI h (a + 2) l = gIt q (l + 1)) ∧ (∀ s : Nat, s < 4 → hI h (a + 3) s = (q.2.2.getD s (1, 0)).1 ∧ hI h (a + 4) s = (q.2.2.getD s (1, 0)).2) ∧ hI h 3 1 = b2i (q.2.1.isSome = true)
def clP (h h' : Hp) (a : Nat) : Prop := hI h' a 4 = 0 ∧ hI h' a 5 = 1 ∧ hI h' a 6 = 0 ∧ (∀ l : Nat, l < 4 → hI h' (a + 2) l = 0 ∧ hI h' (a + 3) l = 1 ∧ hI h' (a + 4) l = 0) ∧ (∀ c j, ¬ (c = a ∧ 4 ≤ j ∧ j ≤ 6) → c ≠ a + 2 → c ≠ a + 3 → c ≠ a + 4 → hI h' c j = hI h c j) ∧ h'.2 = h.2
theorem flH_in {h : Hp} {b j : Nat} {v k : Int} (hj : (j : Int) < k) : hI (flH h b v k) b j = v := by unfold flH; rw [hI_sA, if_pos rfl, if_pos hj]

set_option maxRecDepth 20000 in
theorem S_X3_clear {X : Cx} {h : Hp} {a : Nat} (hG : isG a) : Spec X mX3_clear 1 [.ref (adr X a)] h (fun rv h' => rv = none ∧ clP h h' a) := by
  refine spec_wp (Nat.le_of_ble_eq_true rfl) (by decide +kernel) ?_
  refine wp_loc [(0, .ref (adr X a))] ⟨rfl, trivial⟩ ?_
  refine wp_aload_n dX3_clear_0 rfl ?_
  refine wp_iconst dX3_clear_1 ?_
  refine wp_putI dX3_clear_2 plX3_24 (gs0 hG) rfl ?_
  refine wp_aload_n dX3_clear_5 rfl ?_
  refine wp_iconst dX3_clear_6 ?_
  refine wp_putI dX3_clear_7 plX3_28 (gs0 hG) rfl ?_
  refine wp_aload_n dX3_clear_10 rfl ?_
  refine wp_iconst dX3_clear_11 ?_
  refine wp_putI dX3_clear_12 plX3_31 (gs0 hG) rfl ?_
  refine wp_aload_n dX3_clear_15 rfl ?_
  refine wp_getC dX3_clear_16 flX3_15 (gs0 hG) rfl ?_
  refine wp_iconst dX3_clear_19 ?_
  refine wp_callSv dX3_clear_20 mlX3_34 msJ7_fill_53178 (S_J7_fill_53178 (gs2 hG)) rfl rfl (by decide) (by decide) (Nat.le_of_ble_eq_true rfl) ?_
  refine wp_aload_n dX3_clear_23 rfl ?_
  refine wp_getC dX3_clear_24 flX3_18 (gs0 hG) rfl ?_
  refine wp_iconst dX3_clear_27 ?_
  refine wp_callSv dX3_clear_28 mlX3_34 msJ7_fill_53178 (S_J7_fill_53178 (gs3 hG)) rfl rfl (by decide) (by decide) (Nat.le_of_ble_eq_true rfl) ?_
  refine wp_aload_n dX3_clear_31 rfl ?_
  refine wp_getC dX3_clear_32 flX3_21 (gs0 hG) rfl ?_
  refine wp_iconst dX3_clear_35 ?_
  refine wp_callSv dX3_clear_36 mlX3_34 msJ7_fill_53178 (S_J7_fill_53178 (gs4 hG)) rfl rfl (by decide) (by decide) (Nat.le_of_ble_eq_true rfl) ?_
  exact wp_ret dX3_clear_39 rfl (⟨rfl, by
    refine ⟨?_, ?_, ?_, fun l hl => ⟨?_, ?_, ?_⟩, fun c j h1 h2 h3 h4 => ?_, rfl⟩
    · rw [flH_I (by omega), flH_I (by omega), flH_I (by omega), hI_sI, if_neg (by omega), hI_sI, if_neg (by omega), hI_same]
    · rw [flH_I (by omega), flH_I (by omega), flH_I (by omega), hI_sI, if_neg (by omega), hI_same]
    · rw [flH_I (by omega), flH_I (by omega), flH_I (by omega), hI_same]
    · rw [flH_I (by omega), flH_I (by omega), flH_in (by omega)]
    · rw [flH_I (by omega), flH_in (by omega)]
    · rw [flH_in (by omega)]
    · rw [flH_I h4, flH_I h3, flH_I h2, hI_sI, if_neg (by omega), hI_sI, if_neg (by omega), hI_sI, if_neg (by omega)]⟩)

def Sgr (a c j : Nat) : Prop := (c = 1 ∧ j = 2) ∨ (c = a ∧ j = 4) ∨ c = a + 1

set_option maxRecDepth 20000 in
theorem S_X4_ground {X : Cx} {h : Hp} {a : Nat} {t : List Int} {i0 : Nat} {V : Nat ⊕ (Nat × List Int)} (hG : isG a) (tp : TPh h t) (tk : TOK t) (hi : hI h 1 2 = i0) (hl : i0 ≤ t.length) (hb : HB h a) (hV0 : V = grF t 24 [] i0) : Spec X mX4_ground 2 [.ref (adr X 3), .ref (adr X 1), .ref (adr X a)] h (fun rv h' => rv = some (.int (iI (b2i (V.isRight = true)))) ∧ hI h' 1 2 = psI V ∧ (∀ k l, V = .inr (k, l) → hI h' a 4 = l.length ∧ ∀ i : Nat, i < l.length → hI h' (a + 1) i = l.getD i 0) ∧ HB h' a ∧ Kp (Sgr a) h h') := by
  refine spec_wp (Nat.le_of_ble_eq_true rfl) (by decide +kernel) ?_
  refine wp_loc [(0, .ref (adr X 3)), (1, .ref (adr X 1)), (2, .ref (adr X a))] ⟨rfl, rfl, rfl, trivial⟩ ?_
  have L : ∀ (n : Nat) (hs : List Int) (j : Nat) (h1 : Hp), (hs.length + n = 24) → (j ≤ t.length) → (TPh h1 t) → (hI h1 1 2 = j) → (∀ i : Nat, i < hs.length → hI h1 (a + 1) i = hs.getD i 0) → (HB h1 a) → (Kp (Sgr a) h h1) → (V = grF t n hs j) → WP X mX4_ground 2 2 [(0, .ref (adr X 3)), (1, .ref (adr X 1)), (2, .ref (adr X a)), (3, .int (iI ((hs.length : Nat) : Int)))] [] h1 (fun rv h' => rv = some (.int (iI (b2i (V.isRight = true)))) ∧ hI h' 1 2 = psI V ∧ (∀ k l, V = .inr (k, l) → hI h' a 4 = l.length ∧ ∀ i : Nat, i < l.length → hI h' (a + 1) i = l.getD i 0) ∧ HB h' a ∧ Kp (Sgr a) h h') := by
    intro n
    induction n with
    | zero =>
      intro hs j h1 hn hj tp hi hh hb kp hV
      refine wp_iload_n dX4_ground_2 rfl ?_
      refine wp_bipush dX4_ground_3 rfl ?_
      refine wp_icmpge 112 dX4_ground_5 (by decide) (by unfold InR; omega) (by unfold InR; omega) (fun c5 => ?_) (fun c5 => ?_)
      · refine wp_iconst dX4_ground_112 ?_
        exact wp_zret dX4_ground_113 rfl (by omega) (by subst hV; exact ⟨rfl, hi, fun k l e => (by cases e), hb, kp⟩)
      · exact absurd c5 (by omega)
    | succ n ih =>
      intro hs j h1 hn hj tp hi hh hb kp hV
      refine wp_iload_n dX4_ground_2 rfl ?_
      refine wp_bipush dX4_ground_3 rfl ?_
      refine wp_icmpge 112 dX4_ground_5 (by decide) (by unfold InR; omega) (by unfold InR; omega) (fun c5 => ?_) (fun c5 => ?_)
      · exact absurd c5 (by omega)
      · have sb := sk_b t hj
        unfold grF at hV
        refine wp_aload_n dX4_ground_8 rfl ?_
        refine wp_callV dX4_ground_9 mlX4_38 mvX7_sign (S_X7_sign tp tk hi hj) rfl rfl (by decide) (by decide) rfl rfl rfl (Nat.le_of_ble_eq_true rfl) ?_
        rintro rv h2 ⟨rfl, rfl⟩
        refine wp_pop dX4_ground_12 rfl ?_
        refine wp_aload_n dX4_ground_13 rfl ?_
        refine wp_iconst dX4_ground_14 ?_
        refine wp_callV dX4_ground_15 mlX4_63 mvX7_number (S_X7_number (m := 2) tp.at tk hI_same sb.2 (by decide)) rfl rfl (by decide) (by decide) rfl rfl rfl (Nat.le_of_ble_eq_true rfl) ?_
        rintro rv h2 hq
        obtain ⟨rfl, rfl⟩ := nmQ_f hq
        rw [sI_sI]
        have nb := nmV_b tk (m := 2) (by decide) sb.2
        refine wp_istore dX4_ground_18 (by decide) ?_
        refine wp_iload dX4_ground_20 rfl ?_
        refine wp_iconst dX4_ground_22 ?_
        refine wp_icmpne 28 dX4_ground_23 (by decide) (by unfold InR; omega) (by unfold InR; omega) (fun c23 => ?_) (fun c23 => ?_)
        · obtain ⟨k2, y, he⟩ := nmV_ok c23
          have hr := nmr tk (by decide) sb.2 he
          rw [he] at hV nb ⊢
          dsimp only [nmV, psI] at hV nb ⊢
          have ga : 20 ≤ a ∧ a ≤ 25 := by rcases hG with q | q <;> omega
          refine wp_aload_n dX4_ground_28 rfl ?_
          refine wp_getC dX4_ground_29 flX4_67 (gs0 hG) rfl ?_
          refine wp_iload_n dX4_ground_32 rfl ?_
          refine wp_iload dX4_ground_33 rfl ?_
          refine wp_iast dX4_ground_35 (by first | rfl | exact gs1 hG | exact gs2 hG | exact gs3 hG | exact gs4 hG | exact ws1 hW | exact ws2 hW | assumption) (by omega) (by omega) ?_
          refine wp_aload_n dX4_ground_36 rfl ?_
          refine wp_iload_n dX4_ground_37 rfl ?_
          refine wp_iconst dX4_ground_38 ?_
          refine wp_iadd dX4_ground_39 ?_
          refine wp_putI dX4_ground_40 plX4_42 (gs0 hG) rfl ?_
          obtain ⟨h2, eh2⟩ : ∃ h2, h2 = sI (sI (sI h1 1 2 ((k2 : Nat) : Int)) (a + 1) ((hs.length : Nat) : Int).toNat y) a 4 (((hs.length : Nat) : Int) + 1) := ⟨_, rfl⟩
          rw [← eh2]
          have tp2 : TPh h2 t := by rw [eh2]; exact ((tp.at.oth (by omega) (by omega)).oth (by omega) (by omega))
          have at2 : hI h2 1 2 = ((k2 : Nat) : Int) := by rw [eh2, hI_sI, if_neg (by omega), hI_sI, if_neg (by omega), hI_same]
          have p2 : hI h2 a 4 = ((hs ++ [y]).length : Nat) := by rw [eh2, hI_same, List.length_append, List.length_singleton]; omega
          have hh2 : ∀ i : Nat, i < (hs ++ [y]).length → hI h2 (a + 1) i = (hs ++ [y]).getD i 0 := by
            intro i hi
            rw [List.length_append, List.length_singleton] at hi
            rw [eh2, hI_sI, if_neg (by omega), hI_sI]
            by_cases q : i = hs.length
            · rw [if_pos ⟨rfl, by omega⟩, q]; simp
            · rw [if_neg (by omega), hI_sI, if_neg (by omega), hh i (by omega), List.getD_eq_getElem?_getD, List.getD_eq_getElem?_getD, List.getElem?_append_left (by omega)]
          have hb2 : HB h2 a := by
            intro i hi
            rw [eh2, hI_sI, if_neg (by omega), hI_sI]
            by_cases q : i = hs.length
            · rw [if_pos ⟨rfl, by omega⟩]; omega
            · rw [if_neg (by omega), hI_sI, if_neg (by omega)]; exact hb i hi
          have kp2 : Kp (Sgr a) h h2 := by rw [eh2]; exact ((kp.tr (Kp.sI (Or.inl ⟨rfl, rfl⟩))).tr (Kp.sI (Or.inr (Or.inr rfl)))).tr (Kp.sI (Or.inr (Or.inl ⟨rfl, rfl⟩)))
          have hl2 : (hs ++ [y]).length = hs.length + 1 := by rw [List.length_append, List.length_singleton]
          have s3 := sk_b t hr.2.1
          have lb3 := lk_b tk hr.2.1
          refine wp_aload_n dX4_ground_43 rfl ?_
          refine wp_callV dX4_ground_44 mlX4_38 mvX7_sign (S_X7_sign (i := k2) tp2 tk at2 hr.2.1) rfl rfl (by decide) (by decide) rfl rfl rfl (Nat.le_of_ble_eq_true rfl) ?_
          rintro rv h3 ⟨rfl, rfl⟩
          refine wp_bipush dX4_ground_47 rfl ?_
          refine wp_icmpeq 56 dX4_ground_49 (by decide) (by unfold InR; omega) (by unfold InR; omega) (fun c49 => ?_) (fun c49 => ?_)
          · refine wp_iconst dX4_ground_56 ?_
            refine wp_istore dX4_ground_57 (by decide) ?_
            refine wp_iload dX4_ground_59 rfl ?_
            refine wp_ifeq 87 dX4_ground_61 (by decide) (by unfold InR; omega) (fun _ => ?_) (fun q => absurd rfl q)
            refine wp_aload_n dX4_ground_87 rfl ?_
            refine wp_getI dX4_ground_88 flX4_42 (gs0 hG) rfl ?_
            rw [hI_sI, if_neg (by omega), p2]
            refine wp_bipush dX4_ground_91 rfl ?_
            refine wp_icmpge 106 dX4_ground_93 (by decide) (by unfold InR; omega) (by unfold InR; omega) (fun c93 => ?_) (fun c93 => ?_)
            · refine wp_iinc dX4_ground_106 rfl (by decide) ?_
              refine wp_goto 2 dX4_ground_109 (by decide) ?_
              rw [show ((hs.length : Nat) : Int) + 1 = (((hs ++ [y]).length : Nat) : Int) by rw [List.length_append, List.length_singleton]; omega]
              refine wp_loc [(0, .ref (adr X 3)), (1, .ref (adr X 1)), (2, .ref (adr X a)), (3, .int (iI ((hs ++ [y]).length : Nat)))] ⟨rfl, rfl, rfl, rfl, trivial⟩ ?_
              first
                | exact ih (hs ++ [y]) (sk t k2 + 1) _ (by rw [List.length_append, List.length_singleton]; omega) (by have := lk_in tk hr.2.1 (by omega : lk t k2 ≠ -1); omega) tp2.at (by rw [hI_same]; omega) (fun i hi => by rw [hI_sI, if_neg (by omega)]; exact hh2 i hi) (fun i hi => by rw [hI_sI, if_neg (by omega)]; exact hb2 i hi) (kp2.tr (Kp.sI (Or.inl ⟨rfl, rfl⟩))) (by rw [if_pos c49, if_neg (by omega)] at hV; exact hV)
                | (have n0 : n = 0 := by omega
                   subst n0
                   exact ih (hs ++ [y]) (sk t k2) _ (by rw [List.length_append, List.length_singleton]; omega) s3.2 tp2.at hI_same (fun i hi => by rw [hI_sI, if_neg (by omega)]; exact hh2 i hi) (fun i hi => by rw [hI_sI, if_neg (by omega)]; exact hb2 i hi) (kp2.tr (Kp.sI (Or.inl ⟨rfl, rfl⟩))) (by rw [if_pos c49, if_pos (by omega)] at hV; exact hV))
            · refine wp_aload_n dX4_ground_96 rfl ?_
              refine wp_dup dX4_ground_97 rfl ?_
              refine wp_getI dX4_ground_98 flX4_24 rfl rfl ?_
              rw [hI_same]
              refine wp_iconst dX4_ground_101 ?_
              refine wp_iadd dX4_ground_102 ?_
              refine wp_putI dX4_ground_103 plX4_24 rfl rfl ?_
              rw [sI_sI]
              refine wp_iinc dX4_ground_106 rfl (by decide) ?_
              refine wp_goto 2 dX4_ground_109 (by decide) ?_
              rw [show ((hs.length : Nat) : Int) + 1 = (((hs ++ [y]).length : Nat) : Int) by rw [List.length_append, List.length_singleton]; omega]
              refine wp_loc [(0, .ref (adr X 3)), (1, .ref (adr X 1)), (2, .ref (adr X a)), (3, .int (iI ((hs ++ [y]).length : Nat)))] ⟨rfl, rfl, rfl, rfl, trivial⟩ ?_
              first
                | exact ih (hs ++ [y]) (sk t k2 + 1) _ (by rw [List.length_append, List.length_singleton]; omega) (by have := lk_in tk hr.2.1 (by omega : lk t k2 ≠ -1); omega) tp2.at (by rw [hI_same]; omega) (fun i hi => by rw [hI_sI, if_neg (by omega)]; exact hh2 i hi) (fun i hi => by rw [hI_sI, if_neg (by omega)]; exact hb2 i hi) (kp2.tr (Kp.sI (Or.inl ⟨rfl, rfl⟩))) (by rw [if_pos c49, if_neg (by omega)] at hV; exact hV)
                | (have n0 : n = 0 := by omega
                   subst n0
                   exact ih (hs ++ [y]) (sk t k2) _ (by rw [List.length_append, List.length_singleton]; omega) s3.2 tp2.at hI_same (fun i hi => by rw [hI_sI, if_neg (by omega)]; exact hh2 i hi) (fun i hi => by rw [hI_sI, if_neg (by omega)]; exact hb2 i hi) (kp2.tr (Kp.sI (Or.inl ⟨rfl, rfl⟩))) (by rw [if_pos c49, if_pos (by omega)] at hV; exact hV))
          · refine wp_iconst dX4_ground_52 ?_
            refine wp_goto 57 dX4_ground_53 (by decide) ?_
            refine wp_istore dX4_ground_57 (by decide) ?_
            refine wp_iload dX4_ground_59 rfl ?_
            refine wp_ifeq 87 dX4_ground_61 (by decide) (by unfold InR; omega) (fun q => absurd q (by decide)) (fun _ => ?_)
            refine wp_aload_n dX4_ground_64 rfl ?_
            refine wp_getI dX4_ground_65 flX4_42 (gs0 hG) rfl ?_
            rw [hI_sI, if_neg (by omega), p2]
            refine wp_iconst dX4_ground_68 ?_
            refine wp_icmplt 85 dX4_ground_69 (by decide) (by unfold InR; omega) (by unfold InR; omega) (fun c69 => ?_) (fun c69 => ?_)
            · refine wp_iconst dX4_ground_85 ?_
              exact wp_zret dX4_ground_86 rfl (by omega) (by
              rw [if_neg c49] at hV
              first
              | (rw [if_pos (by omega)] at hV; subst hV; exact ⟨rfl, hI_same, fun k l e => (by cases e; exact ⟨by rw [hI_sI, if_neg (by omega), p2], fun i hi => by rw [hI_sI, if_neg (by omega)]; exact hh2 i hi⟩), (fun i hi => by rw [hI_sI, if_neg (by omega)]; exact hb2 i hi), (kp2.tr (Kp.sI (Or.inl ⟨rfl, rfl⟩)))⟩)
              | (rw [if_neg (by omega)] at hV; subst hV; exact ⟨rfl, hI_same, fun k l e => (by cases e), (fun i hi => by rw [hI_sI, if_neg (by omega)]; exact hb2 i hi), (kp2.tr (Kp.sI (Or.inl ⟨rfl, rfl⟩)))⟩))
            · refine wp_aload_n dX4_ground_72 rfl ?_
              refine wp_getI dX4_ground_73 flX4_42 (gs0 hG) rfl ?_
              rw [hI_sI, if_neg (by omega), p2]
              refine wp_iconst dX4_ground_76 ?_
              refine wp_iremp dX4_ground_77 (by omega) (by omega) (by unfold InR; omega) (by unfold InR; omega) ?_
              refine wp_ifne 85 dX4_ground_78 (by decide) (by unfold InR; omega) (fun c78 => ?_) (fun c78 => ?_)
              · refine wp_iconst dX4_ground_85 ?_
                exact wp_zret dX4_ground_86 rfl (by omega) (by
              rw [if_neg c49] at hV
              first
              | (rw [if_pos (by omega)] at hV; subst hV; exact ⟨rfl, hI_same, fun k l e => (by cases e; exact ⟨by rw [hI_sI, if_neg (by omega), p2], fun i hi => by rw [hI_sI, if_neg (by omega)]; exact hh2 i hi⟩), (fun i hi => by rw [hI_sI, if_neg (by omega)]; exact hb2 i hi), (kp2.tr (Kp.sI (Or.inl ⟨rfl, rfl⟩)))⟩)
              | (rw [if_neg (by omega)] at hV; subst hV; exact ⟨rfl, hI_same, fun k l e => (by cases e), (fun i hi => by rw [hI_sI, if_neg (by omega)]; exact hb2 i hi), (kp2.tr (Kp.sI (Or.inl ⟨rfl, rfl⟩)))⟩))
              · refine wp_iconst dX4_ground_81 ?_
                refine wp_goto 86 dX4_ground_82 (by decide) ?_
                exact wp_zret dX4_ground_86 rfl (by omega) (by
              rw [if_neg c49] at hV
              first
              | (rw [if_pos (by omega)] at hV; subst hV; exact ⟨rfl, hI_same, fun k l e => (by cases e; exact ⟨by rw [hI_sI, if_neg (by omega), p2], fun i hi => by rw [hI_sI, if_neg (by omega)]; exact hh2 i hi⟩), (fun i hi => by rw [hI_sI, if_neg (by omega)]; exact hb2 i hi), (kp2.tr (Kp.sI (Or.inl ⟨rfl, rfl⟩)))⟩)
              | (rw [if_neg (by omega)] at hV; subst hV; exact ⟨rfl, hI_same, fun k l e => (by cases e), (fun i hi => by rw [hI_sI, if_neg (by omega)]; exact hb2 i hi), (kp2.tr (Kp.sI (Or.inl ⟨rfl, rfl⟩)))⟩))
        · refine wp_iconst dX4_ground_26 ?_
          exact wp_zret dX4_ground_27 rfl (by omega) (by
    obtain ⟨e, he⟩ := nmV_no tk (by decide) sb.2 c23
    rw [he] at hV
    subst hV
    exact ⟨rfl, by rw [hI_same, he]; rfl, fun k l e => (by cases e), fun i hi => by rw [hI_sI, if_neg (by rcases hG with q | q <;> omega)]; exact hb i hi, kp.tr (Kp.sI (Or.inl ⟨rfl, rfl⟩))⟩)
  refine wp_iconst dX4_ground_0 ?_
  refine wp_istore_n dX4_ground_1 (by decide) ?_
  refine wp_loc [(0, .ref (adr X 3)), (1, .ref (adr X 1)), (2, .ref (adr X a)), (3, .int (iI ((([] : List Int).length : Nat) : Int)))] ⟨rfl, rfl, rfl, rfl, trivial⟩ ?_
  exact L 24 [] i0 h rfl hl tp hi (fun i hi => absurd hi (Nat.not_lt_zero i)) hb (Kp.rf h) hV0

