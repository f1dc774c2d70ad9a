/-! CARDS: the class's methods -/
def flH (h : Hp) (b : Nat) (v k : Int) : Hp := sA h b (fun i => if (i : Int) < k then v else hI h b i)
theorem flH_I {h : Hp} {b c j : Nat} {v k : Int} (hc : c ≠ b) : hI (flH h b v k) c j = hI h c j := by unfold flH; rw [hI_sA, if_neg hc]
theorem flH_s {h : Hp} {b : Nat} {v k : Int} (hk : 0 ≤ k) : sI (flH h b v k) b k.toNat v = flH h b v (k + 1) := by
  unfold flH
  rw [sI_sA]
  refine sA_congr (fun i => ?_)
  by_cases hi : i = k.toNat
  · rw [if_pos hi, if_pos (by omega)]
  · rw [if_neg hi]
    by_cases h2 : (i : Int) < k
    · rw [if_pos h2, if_pos (by omega)]
    · rw [if_neg h2, if_neg (by omega)]

set_option maxRecDepth 20000 in
theorem S_J7_fill_53178 {X : Cx} {h : Hp} {b n0 : Nat} {v : Int} (hb : shp[b]? = some (.inl (0, n0))) : Spec X mJ7_fill_53178 0 [.ref (adr X b), .int (iI v)] h (fun rv h' => rv = none ∧ h' = flH h b v n0) := by
  have hn0 := shp_len hb
  have e0 : flH h b v 0 = h := sI_same (fun i => if_neg (by omega))
  refine spec_wpF (Nat.le_of_ble_eq_true rfl) (by decide +kernel) ?_
  refine wp_loc [(0, .ref (adr X b)), (1, .int (iI v))] ⟨rfl, rfl, trivial⟩ ?_
  have L : ∀ (n : Nat) (k : Int), (k + n = n0) → (0 ≤ k) → WP X mJ7_fill_53178 0 5 [(0, .ref (adr X b)), (1, .int (iI v)), (2, .int (iI k)), (3, .int (iI (n0 : Nat)))] [] (flH h b v k) (fun rv h' => rv = none ∧ h' = flH h b v n0) := by
    intro n
    induction n with
    | zero =>
      intro k hn hk
      refine wp_iload_n dJ7_fill_53178_5 rfl ?_
      refine wp_iload_n dJ7_fill_53178_6 rfl ?_
      refine wp_icmpge 20 dJ7_fill_53178_7 (by decide) (by unfold InR; omega) (by unfold InR; omega) (fun c7 => ?_) (fun c7 => ?_)
      · exact wp_ret dJ7_fill_53178_20 rfl (⟨rfl, by rw [show k = n0 by omega]⟩)
      · exact absurd c7 (by omega)
    | succ n ih =>
      intro k hn hk
      refine wp_iload_n dJ7_fill_53178_5 rfl ?_
      refine wp_iload_n dJ7_fill_53178_6 rfl ?_
      refine wp_icmpge 20 dJ7_fill_53178_7 (by decide) (by unfold InR; omega) (by unfold InR; omega) (fun c7 => ?_) (fun c7 => ?_)
      · exact absurd c7 (by omega)
      · refine wp_aload_n dJ7_fill_53178_10 rfl ?_
        refine wp_iload_n dJ7_fill_53178_11 rfl ?_
        refine wp_iload_n dJ7_fill_53178_12 rfl ?_
        refine wp_iast dJ7_fill_53178_13 hb (by omega) (by omega) ?_
        rw [flH_s hk]
        refine wp_iinc dJ7_fill_53178_14 rfl (by decide) ?_
        refine wp_goto 5 dJ7_fill_53178_17 (by decide) ?_
        refine wp_loc [(0, .ref (adr X b)), (1, .int (iI v)), (2, .int (iI (k + 1))), (3, .int (iI (n0 : Nat)))] ⟨rfl, rfl, rfl, rfl, trivial⟩ ?_
        exact ih (k + 1) (by omega) (by omega)
  refine wp_iconst dJ7_fill_53178_0 ?_
  refine wp_istore_n dJ7_fill_53178_1 (by decide) ?_
  refine wp_aload_n dJ7_fill_53178_2 rfl ?_
  refine wp_alen dJ7_fill_53178_3 hb (by decide) ?_
  refine wp_istore_n dJ7_fill_53178_4 (by decide) ?_
  refine wp_loc [(0, .ref (adr X b)), (1, .int (iI v)), (2, .int (iI 0)), (3, .int (iI (n0 : Nat)))] ⟨rfl, rfl, rfl, rfl, trivial⟩ ?_
  have q := L n0 0 (by omega) (by omega)
  rw [e0] at q
  exact q

set_option maxRecDepth 20000 in
theorem S_X1_placeOf {X : Cx} {h : Hp} {s : Int} (hs : -5000 ≤ s ∧ s ≤ 5000) (hf : 0 ≤ hI h 36 4 ∧ hI h 36 4 ≤ 360) : Spec X mX1_placeOf 0 [.ref (adr X 36), .int (iI s)] h (fun rv h' => rv = some (.int (iI (if -hI h 36 4 ≤ s ∧ s ≤ hI h 36 4 then s + hI h 36 4 else -1))) ∧ h' = h) := by
  refine spec_wp (Nat.le_of_ble_eq_true rfl) (by decide +kernel) ?_
  refine wp_loc [(0, .ref (adr X 36)), (1, .int (iI s))] ⟨rfl, rfl, trivial⟩ ?_
  refine wp_iload_n dX1_placeOf_0 rfl ?_
  refine wp_aload_n dX1_placeOf_1 rfl ?_
  refine wp_getI dX1_placeOf_2 flX1_24 rfl rfl ?_
  refine wp_ineg dX1_placeOf_5 ?_
  refine wp_icmplt 26 dX1_placeOf_6 (by decide) (by unfold InR; omega) (by unfold InR; omega) (fun c6 => ?_) (fun c6 => ?_)
  · refine wp_iconst dX1_placeOf_26 ?_
    exact wp_iret dX1_placeOf_27 rfl (⟨vi (by first | rw [if_pos (by omega)] | rw [if_neg (by omega)]), rfl⟩)
  · refine wp_iload_n dX1_placeOf_9 rfl ?_
    refine wp_aload_n dX1_placeOf_10 rfl ?_
    refine wp_getI dX1_placeOf_11 flX1_24 rfl rfl ?_
    refine wp_icmpgt 26 dX1_placeOf_14 (by decide) (by unfold InR; omega) (by unfold InR; omega) (fun c14 => ?_) (fun c14 => ?_)
    · refine wp_iconst dX1_placeOf_26 ?_
      exact wp_iret dX1_placeOf_27 rfl (⟨vi (by first | rw [if_pos (by omega)] | rw [if_neg (by omega)]), rfl⟩)
    · refine wp_iload_n dX1_placeOf_17 rfl ?_
      refine wp_aload_n dX1_placeOf_18 rfl ?_
      refine wp_getI dX1_placeOf_19 flX1_24 rfl rfl ?_
      refine wp_iadd dX1_placeOf_22 ?_
      refine wp_goto 27 dX1_placeOf_23 (by decide) ?_
      exact wp_iret dX1_placeOf_27 rfl (⟨vi (by first | rw [if_pos (by omega)] | rw [if_neg (by omega)]), rfl⟩)

set_option maxRecDepth 20000 in
theorem S_X1_note {X : Cx} {h : Hp} {s0 a b f T2 T3 : Int} {t : Tb} (ht : tbAt h f t) (hf : hI h 36 4 = f) (hf2 : 0 ≤ f ∧ f ≤ 360) (hs : s0 = T2 * a + T3 * b) (h1 : -f ≤ s0 ∧ s0 ≤ f) (hab : (-9 ≤ a ∧ a ≤ 9) ∧ -9 ≤ b ∧ b ≤ 9) (hbd : -1 ≤ (t s0).1 ∧ (t s0).1 ≤ 100) : Spec X mX1_note 1 [.ref (adr X 36), .int (iI s0), .int (iI a), .int (iI b)] h (fun rv h' => rv = none ∧ CB h h' ∧ tbAt h' f (ntF T2 T3 a b t)) := by
  have q0 := (ht s0 h1.1 h1.2).1
  rw [← q0] at hbd
  have ua := iabs_b (n := 9) hab.1
  have ub := iabs_b (n := 9) hab.2
  refine spec_wp (Nat.le_of_ble_eq_true rfl) (by decide +kernel) ?_
  refine wp_loc [(0, .ref (adr X 36)), (1, .int (iI s0)), (2, .int (iI a)), (3, .int (iI b))] ⟨rfl, rfl, rfl, rfl, trivial⟩ ?_
  refine wp_aload_n dX1_note_0 rfl ?_
  refine wp_iload_n dX1_note_1 rfl ?_
  refine wp_callVp dX1_note_2 mlX1_59 mvX1_placeOf (S_X1_placeOf (by omega) (by omega)) rfl rfl (by decide) (by decide) rfl rfl rfl (Nat.le_of_ble_eq_true rfl) ?_
  rw [if_pos (by omega), hf]
  refine wp_istore dX1_note_5 (by decide) ?_
  refine wp_iload dX1_note_7 rfl ?_
  refine wp_iconst dX1_note_9 ?_
  refine wp_icmpne 14 dX1_note_10 (by decide) (by unfold InR; omega) (by unfold InR; omega) (fun c10 => ?_) (fun c10 => ?_)
  · refine wp_aload_n dX1_note_14 rfl ?_
    refine wp_getC dX1_note_15 flX1_21 rfl rfl ?_
    refine wp_iload dX1_note_18 rfl ?_
    refine wp_dup2 dX1_note_20 rfl rfl ?_
    refine wp_iald dX1_note_21 (by first | rfl | exact gs1 hG | exact gs2 hG | exact gs3 hG | exact gs4 hG | exact ws1 hW | exact ws2 hW | assumption) (by omega) (by omega) ?_
    refine wp_iconst dX1_note_22 ?_
    refine wp_iadd dX1_note_23 ?_
    refine wp_iast dX1_note_24 (by first | rfl | exact gs1 hG | exact gs2 hG | exact gs3 hG | exact gs4 hG | exact ws1 hW | exact ws2 hW | assumption) (by omega) (by omega) ?_
    refine wp_iload_n dX1_note_25 rfl ?_
    refine wp_callSp dX1_note_26 mlX1_63 msJ9_abs_0f7a4 (S_J9_abs_0f7a4 (by unfold InR; omega)) rfl rfl (by decide) (by decide) (Nat.le_of_ble_eq_true rfl) ?_
    refine wp_iload_n dX1_note_29 rfl ?_
    refine wp_callSp dX1_note_30 mlX1_63 msJ9_abs_0f7a4 (S_J9_abs_0f7a4 (by unfold InR; omega)) rfl rfl (by decide) (by decide) (Nat.le_of_ble_eq_true rfl) ?_
    refine wp_iadd dX1_note_33 ?_
    refine wp_istore dX1_note_34 (by decide) ?_
    refine wp_aload_n dX1_note_36 rfl ?_
    refine wp_getC dX1_note_37 flX1_11 rfl rfl ?_
    refine wp_iload dX1_note_40 rfl ?_
    refine wp_iald dX1_note_42 (by first | rfl | exact gs1 hG | exact gs2 hG | exact gs3 hG | exact gs4 hG | exact ws1 hW | exact ws2 hW | assumption) (by omega) (by omega) ?_
    rw [hI_sI, if_neg (by omega)]
    refine wp_iconst dX1_note_43 ?_
    refine wp_icmpeq 59 dX1_note_44 (by decide) (by unfold InR; omega) (by unfold InR; omega) (fun c44 => ?_) (fun c44 => ?_)
    · refine wp_aload_n dX1_note_59 rfl ?_
      refine wp_getC dX1_note_60 flX1_11 rfl rfl ?_
      refine wp_iload dX1_note_63 rfl ?_
      refine wp_iload dX1_note_65 rfl ?_
      refine wp_iast dX1_note_67 (by first | rfl | exact gs1 hG | exact gs2 hG | exact gs3 hG | exact gs4 hG | exact ws1 hW | exact ws2 hW | assumption) (by omega) (by omega) ?_
      refine wp_aload_n dX1_note_68 rfl ?_
      refine wp_getC dX1_note_69 flX1_15 rfl rfl ?_
      refine wp_iload dX1_note_72 rfl ?_
      refine wp_iload_n dX1_note_74 rfl ?_
      refine wp_iast dX1_note_75 (by first | rfl | exact gs1 hG | exact gs2 hG | exact gs3 hG | exact gs4 hG | exact ws1 hW | exact ws2 hW | assumption) (by omega) (by omega) ?_
      refine wp_aload_n dX1_note_76 rfl ?_
      refine wp_getC dX1_note_77 flX1_18 rfl rfl ?_
      refine wp_iload dX1_note_80 rfl ?_
      refine wp_iload_n dX1_note_82 rfl ?_
      refine wp_iast dX1_note_83 (by first | rfl | exact gs1 hG | exact gs2 hG | exact gs3 hG | exact gs4 hG | exact ws1 hW | exact ws2 hW | assumption) (by omega) (by omega) ?_
      exact wp_ret dX1_note_84 rfl (⟨rfl, (((CB.put (by decide)).tr (CB.put (by decide))).tr (CB.put (by decide))).tr (CB.put (by decide)), nt_1 ht hs h1.1 h1.2 (by omega)⟩)
    · refine wp_iload dX1_note_47 rfl ?_
      refine wp_aload_n dX1_note_49 rfl ?_
      refine wp_getC dX1_note_50 flX1_11 rfl rfl ?_
      refine wp_iload dX1_note_53 rfl ?_
      refine wp_iald dX1_note_55 (by first | rfl | exact gs1 hG | exact gs2 hG | exact gs3 hG | exact gs4 hG | exact ws1 hW | exact ws2 hW | assumption) (by omega) (by omega) ?_
      rw [hI_sI, if_neg (by omega)]
      refine wp_icmpge 84 dX1_note_56 (by decide) (by unfold InR; omega) (by unfold InR; omega) (fun c56 => ?_) (fun c56 => ?_)
      · exact wp_ret dX1_note_84 rfl (⟨rfl, CB.put (by decide), nt_0 ht hs h1.1 h1.2 (by omega)⟩)
      · refine wp_aload_n dX1_note_59 rfl ?_
        refine wp_getC dX1_note_60 flX1_11 rfl rfl ?_
        refine wp_iload dX1_note_63 rfl ?_
        refine wp_iload dX1_note_65 rfl ?_
        refine wp_iast dX1_note_67 (by first | rfl | exact gs1 hG | exact gs2 hG | exact gs3 hG | exact gs4 hG | exact ws1 hW | exact ws2 hW | assumption) (by omega) (by omega) ?_
        refine wp_aload_n dX1_note_68 rfl ?_
        refine wp_getC dX1_note_69 flX1_15 rfl rfl ?_
        refine wp_iload dX1_note_72 rfl ?_
        refine wp_iload_n dX1_note_74 rfl ?_
        refine wp_iast dX1_note_75 (by first | rfl | exact gs1 hG | exact gs2 hG | exact gs3 hG | exact gs4 hG | exact ws1 hW | exact ws2 hW | assumption) (by omega) (by omega) ?_
        refine wp_aload_n dX1_note_76 rfl ?_
        refine wp_getC dX1_note_77 flX1_18 rfl rfl ?_
        refine wp_iload dX1_note_80 rfl ?_
        refine wp_iload_n dX1_note_82 rfl ?_
        refine wp_iast dX1_note_83 (by first | rfl | exact gs1 hG | exact gs2 hG | exact gs3 hG | exact gs4 hG | exact ws1 hW | exact ws2 hW | assumption) (by omega) (by omega) ?_
        exact wp_ret dX1_note_84 rfl (⟨rfl, (((CB.put (by decide)).tr (CB.put (by decide))).tr (CB.put (by decide))).tr (CB.put (by decide)), nt_1 ht hs h1.1 h1.2 (by omega)⟩)
  · exact absurd c10 (by omega)

theorem ntF_b {T2 T3 a b : Int} {t : Tb} (h : ∀ s, -1 ≤ (t s).1 ∧ (t s).1 ≤ 100) (hab : (-9 ≤ a ∧ a ≤ 9) ∧ -9 ≤ b ∧ b ≤ 9) : ∀ s, -1 ≤ (ntF T2 T3 a b t s).1 ∧ (ntF T2 T3 a b t s).1 ≤ 100 := by
  intro s
  have q := h s
  have ua := iabs_b (n := 9) hab.1
  have ub := iabs_b (n := 9) hab.2
  unfold ntF
  (repeat' split) <;> (try dsimp only) <;> omega
def BI (h0 h : Hp) (σ : Sg) (t : Tb) : Prop := AC h σ ∧ sameM h0 h ∧ hI h 36 5 = 0 ∧ hI h 36 4 = far (gT (sG σ)) (gN (sG σ)) ∧ tbAt h (far (gT (sG σ)) (gN (sG σ))) t ∧ (∀ s, -1 ≤ (t s).1 ∧ (t s).1 ≤ 100) ∧ h.2 = h0.2

set_option maxRecDepth 20000 in
theorem S_X1_build {X : Cx} {h : Hp} {σ : Sg} (a : AC h σ) (o : SOK σ) (hP : 0 < gP (sG σ)) : Spec X mX1_build 8 [.ref (adr X 36), .ref (adr X (hR h 0 6))] h (fun rv h' => rv = none ∧ AC h' σ ∧ sameM h h' ∧ hI h' 36 5 = 1 ∧ h'.2 = h.2) := by
  have g := a.gb o
  have hG := g.1
  have gk := o.2.2.2.1
  have gb := gk.b
  have gkb := gk.2.1
  have e4 : hI h (hR h 0 6) 4 = gP (sG σ) := a.2.2.2.2.1.1
  have e5 : hI h (hR h 0 6) 5 = gA (sG σ) := a.2.2.2.2.1.2.1
  have e6 : hI h (hR h 0 6) 6 = gK (sG σ) := a.2.2.2.2.1.2.2.1
  have he : hI h (hR h 0 6) 4 % 2 = 0 := by omega
  have t2 : hI h (hR h 0 6 + 3) (2 : Int).toNat = gT (sG σ) 2 := (a.2.2.2.2.1.2.2.2.2.2.2 hP 2 (by decide)).1
  have n2 : hI h (hR h 0 6 + 4) (2 : Int).toNat = gN (sG σ) 2 := (a.2.2.2.2.1.2.2.2.2.2.2 hP 2 (by decide)).2
  have t3 : hI h (hR h 0 6 + 3) (3 : Int).toNat = gT (sG σ) 3 := (a.2.2.2.2.1.2.2.2.2.2.2 hP 3 (by decide)).1
  have n3 : hI h (hR h 0 6 + 4) (3 : Int).toNat = gN (sG σ) 3 := (a.2.2.2.2.1.2.2.2.2.2.2 hP 3 (by decide)).2
  have bd2 := gk.2.2.2 hP 2 (by decide) (by decide)
  have bd3 := gk.2.2.2 hP 3 (by decide) (by decide)
  have fb := far_b (T := gT (sG σ)) (N := gN (sG σ)) ⟨bd2.1, bd2.2.1, bd2.2.2.1, bd2.2.2.2.1⟩ ⟨bd3.1, bd3.2.1, bd3.2.2.1, bd3.2.2.2.1⟩
  have b36 := a.2.2.2.2.2.2.2.2.1
  have gg : hR h 0 6 = 20 ∨ hR h 0 6 = 25 := hG
  refine spec_wp (Nat.le_of_ble_eq_true rfl) (by decide +kernel) ?_
  refine wp_loc [(0, .ref (adr X 36)), (1, .ref (adr X (hR h 0 6)))] ⟨rfl, rfl, trivial⟩ ?_
  refine wp_aload_n dX1_build_0 rfl ?_
  refine wp_getI dX1_build_1 flX1_28 rfl rfl ?_
  refine wp_ifeq 8 dX1_build_4 (by decide) (by unfold InR; omega) (fun c4 => ?_) (fun c4 => ?_)
  · refine wp_aload_n dX1_build_8 rfl ?_
    refine wp_getC dX1_build_9 flX1_35 (gs0 hG) rfl ?_
    refine wp_iconst dX1_build_12 ?_
    refine wp_iald dX1_build_13 (by first | rfl | exact gs1 hG | exact gs2 hG | exact gs3 hG | exact gs4 hG | exact ws1 hW | exact ws2 hW | assumption) (by omega) (by omega) ?_
    rw [n2]
    refine wp_istore_n dX1_build_14 (by decide) ?_
    refine wp_aload_n dX1_build_15 rfl ?_
    refine wp_getC dX1_build_16 flX1_35 (gs0 hG) rfl ?_
    refine wp_iconst dX1_build_19 ?_
    refine wp_iald dX1_build_20 (by first | rfl | exact gs1 hG | exact gs2 hG | exact gs3 hG | exact gs4 hG | exact ws1 hW | exact ws2 hW | assumption) (by omega) (by omega) ?_
    rw [n3]
    refine wp_istore_n dX1_build_21 (by decide) ?_
    refine wp_aload_n dX1_build_22 rfl ?_
    refine wp_sipush dX1_build_23 rfl ?_
    refine wp_aload_n dX1_build_26 rfl ?_
    refine wp_getC dX1_build_27 flX1_40 (gs0 hG) rfl ?_
    refine wp_iconst dX1_build_30 ?_
    refine wp_iald dX1_build_31 (by first | rfl | exact gs1 hG | exact gs2 hG | exact gs3 hG | exact gs4 hG | exact ws1 hW | exact ws2 hW | assumption) (by omega) (by omega) ?_
    refine wp_iload_n dX1_build_32 rfl ?_
    refine wp_imul dX1_build_33 ?_
    refine wp_aload_n dX1_build_34 rfl ?_
    refine wp_getC dX1_build_35 flX1_40 (gs0 hG) rfl ?_
    refine wp_iconst dX1_build_38 ?_
    refine wp_iald dX1_build_39 (by first | rfl | exact gs1 hG | exact gs2 hG | exact gs3 hG | exact gs4 hG | exact ws1 hW | exact ws2 hW | assumption) (by omega) (by omega) ?_
    refine wp_iload_n dX1_build_40 rfl ?_
    refine wp_imul dX1_build_41 ?_
    refine wp_iadd dX1_build_42 ?_
    rw [t2, t3]
    have hfr : far (gT (sG σ)) (gN (sG σ)) = gT (sG σ) 2 * gN (sG σ) 2 + gT (sG σ) 3 * gN (sG σ) 3 := rfl
    rw [← hfr]
    refine wp_callSp dX1_build_43 mlX1_43 msJ9_min_7cf53 (S_J9_min_7cf53 (by unfold InR; omega) (by unfold InR; omega)) rfl rfl (by decide) (by decide) (Nat.le_of_ble_eq_true rfl) ?_
    rw [show min 360 (far (gT (sG σ)) (gN (sG σ))) = far (gT (sG σ)) (gN (sG σ)) by omega]
    refine wp_putI dX1_build_46 plX1_24 rfl rfl ?_
    refine wp_aload_n dX1_build_49 rfl ?_
    refine wp_getC dX1_build_50 flX1_11 rfl rfl ?_
    refine wp_iconst dX1_build_53 ?_
    refine wp_callSv dX1_build_54 mlX1_49 msJ7_fill_53178 (S_J7_fill_53178 (n0 := 721) rfl) rfl rfl (by decide) (by decide) (Nat.le_of_ble_eq_true rfl) ?_
    refine wp_aload_n dX1_build_57 rfl ?_
    refine wp_getC dX1_build_58 flX1_21 rfl rfl ?_
    refine wp_iconst dX1_build_61 ?_
    refine wp_callSv dX1_build_62 mlX1_49 msJ7_fill_53178 (S_J7_fill_53178 (n0 := 721) rfl) rfl rfl (by decide) (by decide) (Nat.le_of_ble_eq_true rfl) ?_
    have bi : BI h (flH (flH (sI h 36 4 (far (gT (sG σ)) (gN (sG σ)))) 37 (-1) ((721 : Nat) : Int)) 40 0 ((721 : Nat) : Int)) σ (fun _ => (-1, 0, 0, 0)) := by
      have hk : ∀ c j, (c < 36 ∨ 40 < c) → hI (flH (flH (sI h 36 4 (far (gT (sG σ)) (gN (sG σ)))) 37 (-1) ((721 : Nat) : Int)) 40 0 ((721 : Nat) : Int)) c j = hI h c j := fun c j q => by rw [flH_I (by omega), flH_I (by omega), hI_sI, if_neg (by omega)]
      have h5 : hI (flH (flH (sI h 36 4 (far (gT (sG σ)) (gN (sG σ)))) 37 (-1) ((721 : Nat) : Int)) 40 0 ((721 : Nat) : Int)) 36 5 = 0 := by rw [flH_I (by omega), flH_I (by omega), hI_sI, if_neg (by omega)]; exact c4
      refine ⟨a.core4 o hk rfl ⟨Or.inl h5, fun q => by rw [h5] at q; exact absurd q (by decide)⟩, fun c hc => ⟨funext fun j => hk c j (by omega), rfl, rfl⟩, h5, by rw [flH_I (by omega), flH_I (by omega), hI_sI, if_pos ⟨rfl, rfl⟩], fun s s1 s2 => ⟨?_, ?_, fun q => absurd rfl q⟩, fun s => by dsimp only; omega, rfl⟩
      · rw [flH_I (by omega)]; unfold flH; rw [hI_sA, if_pos rfl, if_pos (by omega)]
      · unfold flH; rw [hI_sA, if_pos rfl, if_pos (by omega)]
    generalize flH (flH (sI h 36 4 (far (gT (sG σ)) (gN (sG σ)))) 37 (-1) ((721 : Nat) : Int)) 40 0 ((721 : Nat) : Int) = h3 at bi ⊢
    refine wp_iload_n dX1_build_65 rfl ?_
    refine wp_ineg dX1_build_66 ?_
    refine wp_istore dX1_build_67 (by decide) ?_
    have L : ∀ (n : Nat) (a1 : Int) (h1 : Hp) (t : Tb), (a1 + n = gN (sG σ) 2 + 1) → (-gN (sG σ) 2 ≤ a1) → (BI h h1 σ t) → (tbA (gT (sG σ) 2) (gT (sG σ) 3) (gN (sG σ) 3) n a1 t = tab (gT (sG σ)) (gN (sG σ))) → WP X mX1_build 8 69 [(0, .ref (adr X 36)), (1, .ref (adr X (hR h 0 6))), (2, .int (iI (gN (sG σ) 2))), (3, .int (iI (gN (sG σ) 3))), (4, .int (iI a1))] [] h1 (fun rv h' => rv = none ∧ AC h' σ ∧ sameM h h' ∧ hI h' 36 5 = 1 ∧ h'.2 = h.2) := by
      intro n
      induction n with
      | zero =>
        intro a1 h1 t hn ha1 bi hT
        refine wp_iload dX1_build_69 rfl ?_
        refine wp_iload_n dX1_build_71 rfl ?_
        refine wp_icmpgt 124 dX1_build_72 (by decide) (by unfold InR; omega) (by unfold InR; omega) (fun c72 => ?_) (fun c72 => ?_)
        · refine wp_aload_n dX1_build_124 rfl ?_
          refine wp_iconst dX1_build_125 ?_
          refine wp_putZ dX1_build_126 plX1_28 rfl rfl (by omega) ?_
          exact wp_ret dX1_build_129 rfl (⟨rfl, bi.1.core4 o (fun c j q => by rw [hI_sI, if_neg (by omega)]) rfl ⟨Or.inr (by rw [hI_sI, if_pos ⟨rfl, rfl⟩]), fun _ => ⟨by rw [hI_sI, if_neg (by decide)]; exact bi.2.2.2.1, by
          have hT : t = tab (gT (sG σ)) (gN (sG σ)) := hT
          rw [← hT]
          intro s s1 s2
          rw [hI_sI, if_neg (by omega), hI_sI, if_neg (by omega), hI_sI, if_neg (by omega), hI_sI, if_neg (by omega)]
          exact bi.2.2.2.2.1 s s1 s2⟩⟩, sameM_tr bi.2.1 (sI_M (by decide)), by rw [hI_sI, if_pos ⟨rfl, rfl⟩], bi.2.2.2.2.2.2⟩)
        · exact absurd c72 (by omega)
      | succ n iho =>
        intro a1 h1 t hn ha1 bi hT
        refine wp_iload dX1_build_69 rfl ?_
        refine wp_iload_n dX1_build_71 rfl ?_
        refine wp_icmpgt 124 dX1_build_72 (by decide) (by unfold InR; omega) (by unfold InR; omega) (fun c72 => ?_) (fun c72 => ?_)
        · exact absurd c72 (by omega)
        · refine wp_iload_n dX1_build_75 rfl ?_
          refine wp_ineg dX1_build_76 ?_
          refine wp_istore dX1_build_77 (by decide) ?_
          obtain ⟨U, hUd⟩ : ∃ U, U = tbB (gT (sG σ) 2) (gT (sG σ) 3) a1 (2 * gN (sG σ) 3 + 1).toNat (-gN (sG σ) 3) t := ⟨_, rfl⟩
          rw [tbA, ← hUd] at hT
          have Li : ∀ (n2 : Nat) (b1 : Int) (h2 : Hp) (u : Tb), (b1 + n2 = gN (sG σ) 3 + 1) → (-gN (sG σ) 3 ≤ b1) → (BI h h2 σ u) → (tbB (gT (sG σ) 2) (gT (sG σ) 3) a1 n2 b1 u = U) → WP X mX1_build 8 79 [(0, .ref (adr X 36)), (1, .ref (adr X (hR h 0 6))), (2, .int (iI (gN (sG σ) 2))), (3, .int (iI (gN (sG σ) 3))), (4, .int (iI a1)), (5, .int (iI b1))] [] h2 (fun rv h' => rv = none ∧ AC h' σ ∧ sameM h h' ∧ hI h' 36 5 = 1 ∧ h'.2 = h.2) := by
            intro n2
            induction n2 with
            | zero =>
              intro b1 h2 u hm hb1 bi hU
              have a := bi.1
              have e6r : hR h2 0 6 = hR h 0 6 := by unfold hR; rw [bi.2.2.2.2.2.2]
              have t2 : hI h2 (hR h 0 6 + 3) (2 : Int).toNat = gT (sG σ) 2 := by rw [← e6r]; exact (a.2.2.2.2.1.2.2.2.2.2.2 hP 2 (by decide)).1
              have t3 : hI h2 (hR h 0 6 + 3) (3 : Int).toNat = gT (sG σ) 3 := by rw [← e6r]; exact (a.2.2.2.2.1.2.2.2.2.2.2 hP 3 (by decide)).1
              refine wp_iload dX1_build_79 rfl ?_
              refine wp_iload_n dX1_build_81 rfl ?_
              refine wp_icmpgt 118 dX1_build_82 (by decide) (by unfold InR; omega) (by unfold InR; omega) (fun c82 => ?_) (fun c82 => ?_)
              · refine wp_iinc dX1_build_118 rfl (by decide) ?_
                refine wp_goto 69 dX1_build_121 (by decide) ?_
                refine wp_loc [(0, .ref (adr X 36)), (1, .ref (adr X (hR h 0 6))), (2, .int (iI (gN (sG σ) 2))), (3, .int (iI (gN (sG σ) 3))), (4, .int (iI (a1 + 1)))] ⟨rfl, rfl, rfl, rfl, rfl, trivial⟩ ?_
                have hU : u = U := hU
                exact iho (a1 + 1) h2 u (by omega) (by omega) bi (by rw [hU]; exact hT)
              · exact absurd c82 (by omega)
            | succ n2 ihi =>
              intro b1 h2 u hm hb1 bi hU
              have a := bi.1
              have e6r : hR h2 0 6 = hR h 0 6 := by unfold hR; rw [bi.2.2.2.2.2.2]
              have t2 : hI h2 (hR h 0 6 + 3) (2 : Int).toNat = gT (sG σ) 2 := by rw [← e6r]; exact (a.2.2.2.2.1.2.2.2.2.2.2 hP 2 (by decide)).1
              have t3 : hI h2 (hR h 0 6 + 3) (3 : Int).toNat = gT (sG σ) 3 := by rw [← e6r]; exact (a.2.2.2.2.1.2.2.2.2.2.2 hP 3 (by decide)).1
              refine wp_iload dX1_build_79 rfl ?_
              refine wp_iload_n dX1_build_81 rfl ?_
              refine wp_icmpgt 118 dX1_build_82 (by decide) (by unfold InR; omega) (by unfold InR; omega) (fun c82 => ?_) (fun c82 => ?_)
              · exact absurd c82 (by omega)
              · refine wp_aload_n dX1_build_85 rfl ?_
                refine wp_aload_n dX1_build_86 rfl ?_
                refine wp_getC dX1_build_87 flX1_40 (gs0 hG) rfl ?_
                refine wp_iconst dX1_build_90 ?_
                refine wp_iald dX1_build_91 (by first | rfl | exact gs1 hG | exact gs2 hG | exact gs3 hG | exact gs4 hG | exact ws1 hW | exact ws2 hW | assumption) (by omega) (by omega) ?_
                refine wp_iload dX1_build_92 rfl ?_
                refine wp_imul dX1_build_94 ?_
                refine wp_aload_n dX1_build_95 rfl ?_
                refine wp_getC dX1_build_96 flX1_40 (gs0 hG) rfl ?_
                refine wp_iconst dX1_build_99 ?_
                refine wp_iald dX1_build_100 (by first | rfl | exact gs1 hG | exact gs2 hG | exact gs3 hG | exact gs4 hG | exact ws1 hW | exact ws2 hW | assumption) (by omega) (by omega) ?_
                refine wp_iload dX1_build_101 rfl ?_
                refine wp_imul dX1_build_103 ?_
                refine wp_iadd dX1_build_104 ?_
                rw [t2, t3]
                have m1 := mul_bb (A := gN (sG σ) 2) (B := 20) (s := a1) (z := gT (sG σ) 2) (by omega) (by omega) (by omega)
                have m2 := mul_bb (A := gN (sG σ) 3) (B := 20) (s := b1) (z := gT (sG σ) 3) (by omega) (by omega) (by omega)
                have hfr : far (gT (sG σ)) (gN (sG σ)) = gT (sG σ) 2 * gN (sG σ) 2 + gT (sG σ) 3 * gN (sG σ) 3 := rfl
                refine wp_iload dX1_build_105 rfl ?_
                refine wp_iload dX1_build_107 rfl ?_
                refine wp_callV dX1_build_109 mlX1_55 mvX1_note (S_X1_note (f := far (gT (sG σ)) (gN (sG σ))) (T2 := gT (sG σ) 2) (T3 := gT (sG σ) 3) bi.2.2.2.2.1 bi.2.2.2.1 fb rfl (by omega) (by omega) (bi.2.2.2.2.2.1 _)) rfl rfl (by decide) (by decide) rfl rfl rfl (Nat.le_of_ble_eq_true rfl) ?_
                rintro rv h3 ⟨rfl, cbh, tb3⟩
                have bi3 : BI h h3 σ (ntF (gT (sG σ) 2) (gT (sG σ) 3) a1 b1 u) := ⟨bi.1.cb o cbh bi.2.2.1, sameM_tr bi.2.1 cbh.M, by rw [cbh.1 36 5 (by omega)]; exact bi.2.2.1, by rw [cbh.1 36 4 (by omega)]; exact bi.2.2.2.1, tb3, ntF_b bi.2.2.2.2.2.1 (by omega), by rw [cbh.2]; exact bi.2.2.2.2.2.2⟩
                refine wp_iinc dX1_build_112 rfl (by decide) ?_
                refine wp_goto 79 dX1_build_115 (by decide) ?_
                refine wp_loc [(0, .ref (adr X 36)), (1, .ref (adr X (hR h 0 6))), (2, .int (iI (gN (sG σ) 2))), (3, .int (iI (gN (sG σ) 3))), (4, .int (iI a1)), (5, .int (iI (b1 + 1)))] ⟨rfl, rfl, rfl, rfl, rfl, rfl, trivial⟩ ?_
                exact ihi (b1 + 1) h3 _ (by omega) (by omega) bi3 hU
          refine wp_loc [(0, .ref (adr X 36)), (1, .ref (adr X (hR h 0 6))), (2, .int (iI (gN (sG σ) 2))), (3, .int (iI (gN (sG σ) 3))), (4, .int (iI a1)), (5, .int (iI (-gN (sG σ) 3)))] ⟨rfl, rfl, rfl, rfl, rfl, rfl, trivial⟩ ?_
          exact Li (2 * gN (sG σ) 3 + 1).toNat (-gN (sG σ) 3) h1 t (by omega) (by omega) bi hUd.symm
    refine wp_loc [(0, .ref (adr X 36)), (1, .ref (adr X (hR h 0 6))), (2, .int (iI (gN (sG σ) 2))), (3, .int (iI (gN (sG σ) 3))), (4, .int (iI (-gN (sG σ) 2)))] ⟨rfl, rfl, rfl, rfl, rfl, trivial⟩ ?_
    exact L (2 * gN (sG σ) 2 + 1).toNat (-gN (sG σ) 2) h3 _ (by omega) (by omega) bi rfl
  · exact wp_ret dX1_build_7 rfl (⟨rfl, a, sameM_rf h, by omega, rfl⟩)

