/-! the GARDEN is read: its clauses -/
def Stb (a c j : Nat) : Prop := (c = 1 ∧ j = 2) ∨ c = 4 ∨ (c = a ∧ j = 5) ∨ c = a + 2
def Scd (a c j : Nat) : Prop := (c = 1 ∧ j = 2) ∨ c = 4 ∨ (c = a ∧ j = 6) ∨ c = a + 3 ∨ c = a + 4
theorem fTL : Cond.fieldLink RX4 78 RX4 "TABLE_LEAST" "[I" ∈ wsG := inL 425 (by decide +kernel) rfl
theorem fTM : Cond.fieldLink RX4 81 RX4 "TABLE_MOST" "[I" ∈ wsG := inL 427 (by decide +kernel) rfl
theorem fCL : Cond.fieldLink RX4 99 RX4 "CARD_LEAST" "[I" ∈ wsG := inL 528 (by decide +kernel) rfl
theorem fCM : Cond.fieldLink RX4 102 RX4 "CARD_MOST" "[I" ∈ wsG := inL 530 (by decide +kernel) rfl
theorem tR (j : Int) : InR (tLo j) ∧ InR (tHi j) := by unfold tLo tHi InR; split <;> omega
theorem cR (j : Int) : InR (cLo j) ∧ InR (cHi j) := by unfold cLo cHi InR; split <;> omega
theorem isR_ok {α : Type} {V : Nat ⊕ (Nat × α)} (h : V.isRight = true) : ∃ k w, V = .inr (k, w) := by
  cases V with
  | inl e => cases h
  | inr z => exact ⟨z.1, z.2, rfl⟩
theorem isR_no {α : Type} {V : Nat ⊕ (Nat × α)} (h : ¬ V.isRight = true) : ∃ e, V = .inl e := by
  cases V with
  | inl e => exact ⟨e, rfl⟩
  | inr z => exact absurd rfl h
theorem Kp.fl {S : Nat → Nat → Prop} {h : Hp} {b : Nat} {v k : Int} (hs : ∀ j, S b j) : Kp S h (flH h b v k) := ⟨fun c j hc => flH_I (fun q => hc (by rw [q]; exact hs j)), rfl⟩
theorem Kp.cp {S : Nat → Nat → Prop} {h : Hp} {a s b t n : Nat} (hs : ∀ j, S b j) : Kp S h (cpy h a s b t n) := ⟨fun c j hc => cpy_I (fun q => hc (by rw [q]; exact hs j)), rfl⟩
theorem Sr_tb {a c j : Nat} (h : Sr c j) : Stb a c j := by unfold Sr at h; unfold Stb; omega
theorem Sr_cd {a c j : Nat} (h : Sr c j) : Scd a c j := by unfold Sr at h; unfold Scd; omega

set_option maxRecDepth 20000 in
theorem S_X4_table {X : Cx} {h : Hp} {a : Nat} {t : List Int} {i0 : Nat} {V : Nat ⊕ (Nat × (Int → Int))} (hx : XOK X) (hG : isG a) (tp : TPh h t) (tk : TOK t) (hi : hI h 1 2 = i0) (hl : i0 ≤ t.length) (hV0 : V = itF t tbL tLo tHi 6 0 (fun j => if j = 0 then 1 else 0) i0) : Spec X mX4_table 13 [.ref (adr X 3), .ref (adr X 1), .ref (adr X a)] h (fun rv h' => rv = some (.int (iI (b2i (V.isRight = true)))) ∧ hI h' 1 2 = psI V ∧ (∀ k w, V = .inr (k, w) → hI h' a 5 = w 0 ∧ ∀ l : Nat, l < 4 → hI h' (a + 2) l = w (l + 1)) ∧ Kp (Stb a) h h') := by
  have ga : 20 ≤ a ∧ a ≤ 25 := by rcases hG with q | q <;> omega
  refine spec_wp (Nat.le_of_ble_eq_true rfl) (by decide +kernel) ?_
  refine wp_loc [(0, .ref (adr X 3)), (1, .ref (adr X 1)), (2, .ref (adr X a))] ⟨rfl, rfl, rfl, trivial⟩ ?_
  refine wp_aload_n dX4_table_0 rfl ?_
  refine wp_getC dX4_table_1 flX4_9 rfl rfl ?_
  refine wp_iconst dX4_table_4 ?_
  refine wp_callSv dX4_table_5 mlX4_70 msJ7_fill_53178 (S_J7_fill_53178 (b := 4) (n0 := 5) rfl) rfl rfl (by decide) (by decide) (Nat.le_of_ble_eq_true rfl) ?_
  refine wp_aload_n dX4_table_8 rfl ?_
  refine wp_getC dX4_table_9 flX4_9 rfl rfl ?_
  refine wp_iconst dX4_table_12 ?_
  refine wp_iconst dX4_table_13 ?_
  refine wp_iast (n := 5) dX4_table_14 rfl (by omega) (by omega) ?_
  refine wp_aload_n dX4_table_15 rfl ?_
  refine wp_aload_n dX4_table_16 rfl ?_
  refine wp_ldcS (RX4, 76, "awxyz", 110) dX4_table_17 (by unfold srL; simp) rfl rfl ?_
  refine wp_gst ("TABLE_LEAST", 101) dX4_table_19 fTL (by unfold stL; simp) ?_
  refine wp_gst ("TABLE_MOST", 102) dX4_table_22 fTM (by unfold stL; simp) ?_
  refine wp_callV dX4_table_25 mlX4_84 mvX4_readItems (S_X4_readItems (s := 0) (qa := 101) (qb := 102) (lo := tLo) (up := tHi) (v0 := fun j => if j = 0 then 1 else 0) (V := V) (by decide) hx.1 hx.2.1 tR ((tp.kp (S := Stb a) (Kp.fl (fun j => Or.inr (Or.inl rfl))) (by unfold Stb; omega)).oth (by decide) (by decide)) tk (by rw [hI_sI, if_neg (by omega), flH_I (by decide)]; exact hi) hl (fun i h5 => by
  have h5 : i < 5 := h5
  show hI _ 4 i = if (i : Int) = 0 then 1 else 0
  rw [hI_sI]
  by_cases q : i = 0
  · rw [if_pos ⟨rfl, by omega⟩, if_pos (by omega)]
  · rw [if_neg (by omega), if_neg (by omega), flH_in (by omega)]) hV0) rfl rfl (by decide) (by decide) rfl rfl rfl (Nat.le_of_ble_eq_true rfl) ?_
  rintro rv h2 ⟨rfl, at2, it2, kp2⟩
  have kp3 : Kp (Stb a) h h2 := ((Kp.fl (fun j => Or.inr (Or.inl rfl))).tr (Kp.sI (Or.inr (Or.inl rfl)))).tr (kp2.mono (fun c j => Sr_tb))
  refine wp_ifneb 33 dX4_table_28 (by decide) (fun c28 => ?_) (fun c28 => ?_)
  · refine wp_aload_n dX4_table_33 rfl ?_
    refine wp_aload_n dX4_table_34 rfl ?_
    refine wp_getC dX4_table_35 flX4_9 rfl rfl ?_
    refine wp_iconst dX4_table_38 ?_
    refine wp_iald (n := 5) dX4_table_39 rfl (by omega) (by omega) ?_
    obtain ⟨k, w, hV⟩ := isR_ok c28
    have iw := it2 k w hV
    have sl0 : sln 0 = 5 := rfl
    refine wp_putI dX4_table_40 plX4_45 (gs0 hG) rfl ?_
    refine wp_aload_n dX4_table_43 rfl ?_
    refine wp_getC dX4_table_44 flX4_9 rfl rfl ?_
    refine wp_iconst dX4_table_47 ?_
    refine wp_aload_n dX4_table_48 rfl ?_
    refine wp_getC dX4_table_49 flX4_88 (gs0 hG) rfl ?_
    refine wp_iconst dX4_table_52 ?_
    refine wp_iconst dX4_table_53 ?_
    refine wp_acopy (n0 := 5) (n1 := 4) dX4_table_54 acX4 rfl (gs2 hG) (by omega) (by omega) (by omega) (by omega) (by omega) (by decide) (Nat.le_of_ble_eq_true rfl) ?_
    refine wp_iconst dX4_table_57 ?_
    exact wp_zret dX4_table_58 rfl (by omega) (by
      refine ⟨vb1 c28, ?_, fun k9 w9 e9 => ?_, (kp3.tr (Kp.sI (Or.inr (Or.inr (Or.inl ⟨rfl, rfl⟩))))).tr (Kp.cp (fun j => Or.inr (Or.inr (Or.inr rfl))))⟩
      · rw [cpy_I (by omega), hI_sI, if_neg (by omega)]; exact at2
      · rw [hV] at e9
        cases e9
        refine ⟨?_, fun l hl => ?_⟩
        · rw [cpy_I (by omega), hI_same]; exact iw 0 (by omega)
        · have q := cpy_in (h := sI h2 a 5 (hI h2 4 (0 : Int).toNat)) (a := 4) (s := (1 : Int).toNat) (b := a + 2) (t := (0 : Int).toNat) (n := (4 : Int).toNat) (j := l) (by omega) (by omega)
          rw [q, hI_sI, if_neg (by omega), show (1 : Int).toNat + (l - (0 : Int).toNat) = l + 1 by omega, iw (l + 1) (by omega)]
          rfl)
  · refine wp_iconst dX4_table_31 ?_
    exact wp_zret dX4_table_32 rfl (by omega) (⟨vb0 c28, at2, fun k w e => absurd (by rw [e]; rfl) c28, kp3⟩)

set_option maxRecDepth 20000 in
theorem S_X4_cardSort {X : Cx} {h : Hp} {a n : Nat} {t : List Int} {i0 : Nat} {V : Nat ⊕ (Nat × (Int → Int))} (hx : XOK X) (hG : isG a) (tp : TPh h t) (tk : TOK t) (hi : hI h 1 2 = i0) (hl : i0 ≤ t.length) (hn : hI h a 6 = n) (hn4 : n < 4) (hV0 : V = itF t cdLt cLo cHi 3 0 (fun _ => 1) i0) : Spec X mX4_cardSort 13 [.ref (adr X 3), .ref (adr X 1), .ref (adr X a)] h (fun rv h' => rv = some (.int (iI (b2i (V.isRight = true)))) ∧ hI h' 1 2 = psI V ∧ (∀ k w, V = .inr (k, w) → hI h' a 6 = n + 1 ∧ hI h' (a + 3) n = w 0 ∧ hI h' (a + 4) n = w 1 ∧ ∀ s, s ≠ n → hI h' (a + 3) s = hI h (a + 3) s ∧ hI h' (a + 4) s = hI h (a + 4) s) ∧ Kp (Scd a) h h') := by
  have ga : 20 ≤ a ∧ a ≤ 25 := by rcases hG with q | q <;> omega
  refine spec_wp (Nat.le_of_ble_eq_true rfl) (by decide +kernel) ?_
  refine wp_loc [(0, .ref (adr X 3)), (1, .ref (adr X 1)), (2, .ref (adr X a))] ⟨rfl, rfl, rfl, trivial⟩ ?_
  refine wp_aload_n dX4_cardSort_0 rfl ?_
  refine wp_getI dX4_cardSort_1 flX4_57 (gs0 hG) rfl ?_
  rw [hn]
  refine wp_istore_n dX4_cardSort_4 (by decide) ?_
  refine wp_aload_n dX4_cardSort_5 rfl ?_
  refine wp_getC dX4_cardSort_6 flX4_9 rfl rfl ?_
  refine wp_iconst dX4_cardSort_9 ?_
  refine wp_iconst dX4_cardSort_10 ?_
  refine wp_iast (n := 5) dX4_cardSort_11 rfl (by omega) (by omega) ?_
  refine wp_aload_n dX4_cardSort_12 rfl ?_
  refine wp_getC dX4_cardSort_13 flX4_9 rfl rfl ?_
  refine wp_iconst dX4_cardSort_16 ?_
  refine wp_iconst dX4_cardSort_17 ?_
  refine wp_iast (n := 5) dX4_cardSort_18 rfl (by omega) (by omega) ?_
  refine wp_iload_n dX4_cardSort_19 rfl ?_
  refine wp_iflt 44 dX4_cardSort_20 (by decide) (by unfold InR; omega) (fun c20 => ?_) (fun c20 => ?_)
  · exact absurd c20 (by omega)
  · refine wp_iload_n dX4_cardSort_23 rfl ?_
    refine wp_iconst dX4_cardSort_24 ?_
    refine wp_icmpge 44 dX4_cardSort_25 (by decide) (by unfold InR; omega) (by unfold InR; omega) (fun c25 => ?_) (fun c25 => ?_)
    · exact absurd c25 (by omega)
    · refine wp_aload_n dX4_cardSort_28 rfl ?_
      refine wp_aload_n dX4_cardSort_29 rfl ?_
      refine wp_ldcS (RX4, 97, "tn", 111) dX4_cardSort_30 (by unfold srL; simp) rfl rfl ?_
      refine wp_gst ("CARD_LEAST", 103) dX4_cardSort_32 fCL (by unfold stL; simp) ?_
      refine wp_gst ("CARD_MOST", 104) dX4_cardSort_35 fCM (by unfold stL; simp) ?_
      refine wp_callV dX4_cardSort_38 mlX4_84 mvX4_readItems (S_X4_readItems (s := 1) (qa := 103) (qb := 104) (lo := cLo) (up := cHi) (v0 := fun _ => 1) (V := V) (by decide) hx.2.2.1 hx.2.2.2 cR ((tp.oth (by decide) (by decide)).oth (by decide) (by decide)) tk (by rw [hI_sI, if_neg (by omega), hI_sI, if_neg (by omega)]; exact hi) hl (fun i h5 => by
  have h5 : i < 2 := h5
  rw [hI_sI]
  by_cases q : i = 1
  · rw [if_pos ⟨rfl, by omega⟩]
  · rw [if_neg (by omega), hI_sI, if_pos ⟨rfl, by omega⟩]) hV0) rfl rfl (by decide) (by decide) rfl rfl rfl (Nat.le_of_ble_eq_true rfl) ?_
      rintro rv h2 ⟨rfl, at2, it2, kp2⟩
      have k12 : Kp Sr h h2 := ((Kp.sI (Or.inr rfl)).tr (Kp.sI (Or.inr rfl))).tr kp2
      have kp3 : Kp (Scd a) h h2 := k12.mono (fun c j => Sr_cd)
      refine wp_ifneb 46 dX4_cardSort_41 (by decide) (fun c41 => ?_) (fun c41 => ?_)
      · refine wp_aload_n dX4_cardSort_46 rfl ?_
        refine wp_getC dX4_cardSort_47 flX4_105 (gs0 hG) rfl ?_
        refine wp_iload_n dX4_cardSort_50 rfl ?_
        refine wp_aload_n dX4_cardSort_51 rfl ?_
        refine wp_getC dX4_cardSort_52 flX4_9 rfl rfl ?_
        refine wp_iconst dX4_cardSort_55 ?_
        refine wp_iald (n := 5) dX4_cardSort_56 rfl (by omega) (by omega) ?_
        obtain ⟨k, w, hV⟩ := isR_ok c41
        have iw := it2 k w hV
        have sl0 : sln 1 = 2 := rfl
        refine wp_iast (n := 4) dX4_cardSort_57 (gs3 hG) (by omega) (by omega) ?_
        refine wp_aload_n dX4_cardSort_58 rfl ?_
        refine wp_getC dX4_cardSort_59 flX4_108 (gs0 hG) rfl ?_
        refine wp_iload_n dX4_cardSort_62 rfl ?_
        refine wp_aload_n dX4_cardSort_63 rfl ?_
        refine wp_getC dX4_cardSort_64 flX4_9 rfl rfl ?_
        refine wp_iconst dX4_cardSort_67 ?_
        refine wp_iald (n := 5) dX4_cardSort_68 rfl (by omega) (by omega) ?_
        refine wp_iast (n := 4) dX4_cardSort_69 (gs4 hG) (by omega) (by omega) ?_
        refine wp_aload_n dX4_cardSort_70 rfl ?_
        refine wp_iload_n dX4_cardSort_71 rfl ?_
        refine wp_iconst dX4_cardSort_72 ?_
        refine wp_iadd dX4_cardSort_73 ?_
        refine wp_putI dX4_cardSort_74 plX4_57 (gs0 hG) rfl ?_
        refine wp_iconst dX4_cardSort_77 ?_
        exact wp_zret dX4_cardSort_78 rfl (by omega) (by
      have en : ((n : Nat) : Int).toNat = n := by omega
      refine ⟨vb1 c41, ?_, fun k9 w9 e9 => ?_, ((kp3.tr (Kp.sI (Or.inr (Or.inr (Or.inr (Or.inl rfl)))))).tr (Kp.sI (Or.inr (Or.inr (Or.inr (Or.inr rfl)))))).tr (Kp.sI (Or.inr (Or.inr (Or.inl ⟨rfl, rfl⟩))))⟩
      · rw [hI_sI, if_neg (by omega), hI_sI, if_neg (by omega), hI_sI, if_neg (by omega)]; exact at2
      · rw [hV] at e9
        cases e9
        refine ⟨hI_same, ?_, ?_, fun s hs => ⟨?_, ?_⟩⟩
        · rw [hI_sI, if_neg (by omega), hI_sI, if_neg (by omega), hI_sI, if_pos ⟨rfl, en.symm⟩]; exact iw 0 (by omega)
        · rw [hI_sI, if_neg (by omega), hI_sI, if_pos ⟨rfl, en.symm⟩, hI_sI, if_neg (by omega)]; exact iw 1 (by omega)
        · rw [hI_sI, if_neg (by omega), hI_sI, if_neg (by omega), hI_sI, if_neg (by omega), k12.1 _ _ (by unfold Sr; omega)]
        · rw [hI_sI, if_neg (by omega), hI_sI, if_neg (by omega), hI_sI, if_neg (by omega), k12.1 _ _ (by unfold Sr; omega)])
      · refine wp_iconst dX4_cardSort_44 ?_
        exact wp_zret dX4_cardSort_45 rfl (by omega) (⟨vb0 c41, at2, fun k w e => absurd (by rw [e]; rfl) c41, kp3⟩)

theorem DG.kp {S : Nat → Nat → Prop} {h h' : Hp} {a : Nat} {q : GS} (g : DG h a q) (k : Kp S h h') (hs : ∀ c j, S c j → ¬ ((a ≤ c ∧ c ≤ a + 4) ∨ (c = 3 ∧ j = 1))) : DG h' a q := by
  obtain ⟨g1, g2, g3, g4, g5, g6, g7⟩ := g
  have e : ∀ c j, ((a ≤ c ∧ c ≤ a + 4) ∨ (c = 3 ∧ j = 1)) → hI h' c j = hI h c j := fun c j hc => k.1 c j (fun z => hs c j z hc)
  refine ⟨?_, ?_, ?_, fun i hi => ?_, fun l hl => ?_, fun s hs => ?_, ?_⟩
  · rw [e a 4 (by omega)]; exact g1
  · rw [e a 5 (by omega)]; exact g2
  · rw [e a 6 (by omega)]; exact g3
  · rw [e (a + 1) i (by omega)]; exact g4 i hi
  · rw [e (a + 2) l (by omega)]; exact g5 l hl
  · rw [e (a + 3) s (by omega), e (a + 4) s (by omega)]; exact g6 s hs
  · rw [e 3 1 (by omega)]; exact g7

set_option maxRecDepth 20000 in
theorem S_X4_clause {X : Cx} {h : Hp} {a : Nat} {t : List Int} {i0 : Nat} {q : GS} {V : Nat ⊕ (Nat × GS)} (hx : XOK X) (hG : isG a) (tp : TPh h t) (tk : TOK t) (hi : hI h 1 2 = i0) (hl : i0 ≤ t.length) (g : DG h a q) (hq : GSOK q) (hb : HB h a) (hV : V = gcF t q i0) : Spec X mX4_clause 14 [.ref (adr X 3), .ref (adr X 1), .ref (adr X a)] h (fun rv h' => rv = some (.int (iI (b2i (V.isRight = true)))) ∧ hI h' 1 2 = psI V ∧ (∀ k q2, V = .inr (k, q2) → DG h' a q2) ∧ HB h' a ∧ Kp (SG a) h h') := by
  have ga : 20 ≤ a ∧ a ≤ 25 := by rcases hG with q | q <;> omega
  have lb := lk_b tk hl
  have sb := sk_b t hl
  have g1 := g.1
  have g3 := g.2.2.1
  have g7 := g.2.2.2.2.2.2
  have hq4 := hq.2.2.2.1
  have hq1 : q.1.length ≤ 24 := by rcases hq.1 with z | z; (rw [z]; decide); omega
  have z1 : q.1 = [] ↔ q.1.length = 0 := List.length_eq_zero_iff.symm
  unfold gcF at hV
  refine spec_wp (Nat.le_of_ble_eq_true rfl) (by decide +kernel) ?_
  refine wp_loc [(0, .ref (adr X 3)), (1, .ref (adr X 1)), (2, .ref (adr X a))] ⟨rfl, rfl, rfl, trivial⟩ ?_
  refine wp_aload_n dX4_clause_0 rfl ?_
  refine wp_callV dX4_clause_1 mlX4_38 mvX7_sign (S_X7_sign tp tk hi hl) rfl rfl (by decide) (by decide) rfl rfl rfl (Nat.le_of_ble_eq_true rfl) ?_
  rintro rv h1 ⟨rfl, rfl⟩
  refine wp_istore_n dX4_clause_4 (by decide) ?_
  refine wp_iload_n dX4_clause_5 rfl ?_
  refine wp_bipush dX4_clause_6 rfl ?_
  refine wp_icmpne 35 dX4_clause_8 (by decide) (by unfold InR; omega) (by unfold InR; omega) (fun c8 => ?_) (fun c8 => ?_)
  · refine wp_iload_n dX4_clause_35 rfl ?_
    refine wp_bipush dX4_clause_36 rfl ?_
    refine wp_icmpne 70 dX4_clause_38 (by decide) (by unfold InR; omega) (by unfold InR; omega) (fun c38 => ?_) (fun c38 => ?_)
    · refine wp_iload_n dX4_clause_70 rfl ?_
      refine wp_bipush dX4_clause_71 rfl ?_
      refine wp_icmpne 108 dX4_clause_73 (by decide) (by unfold InR; omega) (by unfold InR; omega) (fun c73 => ?_) (fun c73 => ?_)
      · refine wp_iconst dX4_clause_108 ?_
        exact wp_zret dX4_clause_109 rfl (by omega) (by
      rw [if_neg (by rw [z1]; omega), if_neg (by rintro ⟨z3, z4⟩; first | omega | (exact absurd c45 (by rw [z4]; decide))), if_neg (by omega)] at hV
      subst hV
      exact ⟨rfl, hI_same, fun k q2 e => (by cases e), fun i hi => by rw [hI_sI, if_neg (by omega)]; exact hb i hi, Kp.sI (S := SG a) (Or.inl ⟨rfl, rfl⟩)⟩)
      · refine wp_aload_n dX4_clause_76 rfl ?_
        refine wp_getI dX4_clause_77 flX4_57 (gs0 hG) rfl ?_
        rw [hI_sI, if_neg (by omega), g3]
        refine wp_iflt 108 dX4_clause_80 (by decide) (by unfold InR; omega) (fun c80 => ?_) (fun c80 => ?_)
        · refine wp_iconst dX4_clause_108 ?_
          exact wp_zret dX4_clause_109 rfl (by omega) (by
      rw [if_neg (by rw [z1]; omega), if_neg (by rintro ⟨z3, z4⟩; first | omega | (exact absurd c45 (by rw [z4]; decide))), if_neg (by omega)] at hV
      subst hV
      exact ⟨rfl, hI_same, fun k q2 e => (by cases e), fun i hi => by rw [hI_sI, if_neg (by omega)]; exact hb i hi, Kp.sI (S := SG a) (Or.inl ⟨rfl, rfl⟩)⟩)
        · refine wp_aload_n dX4_clause_83 rfl ?_
          refine wp_getI dX4_clause_84 flX4_57 (gs0 hG) rfl ?_
          rw [hI_sI, if_neg (by omega), g3]
          refine wp_iconst dX4_clause_87 ?_
          refine wp_icmpge 108 dX4_clause_88 (by decide) (by unfold InR; omega) (by unfold InR; omega) (fun c88 => ?_) (fun c88 => ?_)
          · refine wp_iconst dX4_clause_108 ?_
            exact wp_zret dX4_clause_109 rfl (by omega) (by
      rw [if_neg (by rw [z1]; omega), if_neg (by rintro ⟨z3, z4⟩; first | omega | (exact absurd c45 (by rw [z4]; decide))), if_neg (by omega)] at hV
      subst hV
      exact ⟨rfl, hI_same, fun k q2 e => (by cases e), fun i hi => by rw [hI_sI, if_neg (by omega)]; exact hb i hi, Kp.sI (S := SG a) (Or.inl ⟨rfl, rfl⟩)⟩)
          · refine wp_aload_n dX4_clause_91 rfl ?_
            refine wp_dup dX4_clause_92 rfl ?_
            refine wp_getI dX4_clause_93 flX4_24 rfl rfl ?_
            rw [hI_same]
            refine wp_iconst dX4_clause_96 ?_
            refine wp_iadd dX4_clause_97 ?_
            refine wp_putI dX4_clause_98 plX4_24 rfl rfl ?_
            rw [sI_sI]
            refine wp_aload_n dX4_clause_101 rfl ?_
            refine wp_aload_n dX4_clause_102 rfl ?_
            refine wp_aload_n dX4_clause_103 rfl ?_
            refine wp_callV dX4_clause_104 mlX4_60 mvX4_cardSort (S_X4_cardSort (n := q.2.2.length) (i0 := sk t i0 + 1) (V := itF t cdLt cLo cHi 3 0 (fun _ => 1) (sk t i0 + 1)) hx hG tp.at tk (by rw [hI_same]; omega) (by have := lk_in tk hl (by omega : lk t i0 ≠ -1); omega) (by rw [hI_sI, if_neg (by omega)]; exact g3) (by omega) rfl) rfl rfl (by decide) (by decide) rfl rfl rfl (Nat.le_of_ble_eq_true rfl) ?_
            rintro rv h2 ⟨rfl, at2, it2, kp2⟩
            exact wp_zret dX4_clause_107 rfl b2i_z (by
      rw [if_neg (by rw [z1]; omega), if_neg (by omega), if_pos ⟨c73, by omega⟩] at hV
      refine ⟨?_, ?_, fun k q2 e => ?_, fun i hi => by rw [kp2.1 _ i (by unfold Scd; omega), hI_sI, if_neg (by omega)]; exact hb i hi, ((Kp.sI (S := SG a) (Or.inl ⟨rfl, rfl⟩)).tr (kp2.mono (fun c j => by unfold Scd SG; omega)))⟩
      · subst hV; cases itF t cdLt cLo cHi 3 0 (fun _ => 1) (sk t i0 + 1) <;> rfl
      · rw [at2]; subst hV; cases itF t cdLt cLo cHi 3 0 (fun _ => 1) (sk t i0 + 1) <;> rfl
      · rw [e] at hV
        cases hv : itF t cdLt cLo cHi 3 0 (fun _ => 1) (sk t i0 + 1) with
        | inl e => rw [hv] at hV; cases hV
        | inr z =>
          rw [hv] at hV
          cases hV
          obtain ⟨i1, i2, i3, i4⟩ := it2 z.1 z.2 hv
          have ke : ∀ c j, ¬ Scd a c j → ¬ (c = 1 ∧ j = 2) → hI h2 c j = hI h c j := fun c j z1 z2 => by rw [kp2.1 c j z1, hI_sI, if_neg z2]
          refine ⟨by rw [ke a 4 (by unfold Scd; omega) (by omega)]; exact g1, by rw [ke a 5 (by unfold Scd; omega) (by omega)]; exact g.2.1, by rw [i1]; show _ = ((q.2.2 ++ [_]).length : Int); rw [List.length_append, List.length_singleton]; omega, fun i hi => by rw [ke _ i (by unfold Scd; omega) (by omega)]; exact g.2.2.2.1 i hi, fun l hl => by rw [ke _ l (by unfold Scd; omega) (by omega)]; exact g.2.2.2.2.1 l hl, fun s hs => ?_, by rw [ke 3 1 (by unfold Scd; omega) (by omega)]; exact g7⟩
          show _ = ((q.2.2 ++ [_]).getD s (1, 0)).1 ∧ _ = ((q.2.2 ++ [_]).getD s (1, 0)).2
          by_cases w : s = q.2.2.length
          · rw [w, i2, i3]; simp
          · obtain ⟨j1, j2⟩ := i4 s w
            rw [j1, j2, hI_sI, if_neg (by omega), hI_sI, if_neg (by omega)]
            have := g.2.2.2.2.2.1 s hs
            rw [this.1, this.2, List.getD_eq_getElem?_getD, List.getD_eq_getElem?_getD]
            rcases Nat.lt_or_ge s q.2.2.length with y | y
            · rw [List.getElem?_append_left y]; exact ⟨rfl, rfl⟩
            · rw [List.getElem?_eq_none y, List.getElem?_eq_none (by rw [List.length_append, List.length_singleton]; omega)]; exact ⟨rfl, rfl⟩)
    · refine wp_aload_n dX4_clause_41 rfl ?_
      refine wp_getI dX4_clause_42 flX4_15 rfl rfl ?_
      rw [hI_sI, if_neg (by omega), g7]
      refine wp_ifneb 70 dX4_clause_45 (by decide) (fun c45 => ?_) (fun c45 => ?_)
      · refine wp_iload_n dX4_clause_70 rfl ?_
        refine wp_bipush dX4_clause_71 rfl ?_
        refine wp_icmpne 108 dX4_clause_73 (by decide) (by unfold InR; omega) (by unfold InR; omega) (fun c73 => ?_) (fun c73 => ?_)
        · refine wp_iconst dX4_clause_108 ?_
          exact wp_zret dX4_clause_109 rfl (by omega) (by
      rw [if_neg (by rw [z1]; omega), if_neg (by rintro ⟨z3, z4⟩; first | omega | (exact absurd c45 (by rw [z4]; decide))), if_neg (by omega)] at hV
      subst hV
      exact ⟨rfl, hI_same, fun k q2 e => (by cases e), fun i hi => by rw [hI_sI, if_neg (by omega)]; exact hb i hi, Kp.sI (S := SG a) (Or.inl ⟨rfl, rfl⟩)⟩)
        · refine wp_aload_n dX4_clause_76 rfl ?_
          refine wp_getI dX4_clause_77 flX4_57 (gs0 hG) rfl ?_
          rw [hI_sI, if_neg (by omega), g3]
          refine wp_iflt 108 dX4_clause_80 (by decide) (by unfold InR; omega) (fun c80 => ?_) (fun c80 => ?_)
          · refine wp_iconst dX4_clause_108 ?_
            exact wp_zret dX4_clause_109 rfl (by omega) (by
      rw [if_neg (by rw [z1]; omega), if_neg (by rintro ⟨z3, z4⟩; first | omega | (exact absurd c45 (by rw [z4]; decide))), if_neg (by omega)] at hV
      subst hV
      exact ⟨rfl, hI_same, fun k q2 e => (by cases e), fun i hi => by rw [hI_sI, if_neg (by omega)]; exact hb i hi, Kp.sI (S := SG a) (Or.inl ⟨rfl, rfl⟩)⟩)
          · refine wp_aload_n dX4_clause_83 rfl ?_
            refine wp_getI dX4_clause_84 flX4_57 (gs0 hG) rfl ?_
            rw [hI_sI, if_neg (by omega), g3]
            refine wp_iconst dX4_clause_87 ?_
            refine wp_icmpge 108 dX4_clause_88 (by decide) (by unfold InR; omega) (by unfold InR; omega) (fun c88 => ?_) (fun c88 => ?_)
            · refine wp_iconst dX4_clause_108 ?_
              exact wp_zret dX4_clause_109 rfl (by omega) (by
      rw [if_neg (by rw [z1]; omega), if_neg (by rintro ⟨z3, z4⟩; first | omega | (exact absurd c45 (by rw [z4]; decide))), if_neg (by omega)] at hV
      subst hV
      exact ⟨rfl, hI_same, fun k q2 e => (by cases e), fun i hi => by rw [hI_sI, if_neg (by omega)]; exact hb i hi, Kp.sI (S := SG a) (Or.inl ⟨rfl, rfl⟩)⟩)
            · refine wp_aload_n dX4_clause_91 rfl ?_
              refine wp_dup dX4_clause_92 rfl ?_
              refine wp_getI dX4_clause_93 flX4_24 rfl rfl ?_
              rw [hI_same]
              refine wp_iconst dX4_clause_96 ?_
              refine wp_iadd dX4_clause_97 ?_
              refine wp_putI dX4_clause_98 plX4_24 rfl rfl ?_
              rw [sI_sI]
              refine wp_aload_n dX4_clause_101 rfl ?_
              refine wp_aload_n dX4_clause_102 rfl ?_
              refine wp_aload_n dX4_clause_103 rfl ?_
              refine wp_callV dX4_clause_104 mlX4_60 mvX4_cardSort (S_X4_cardSort (n := q.2.2.length) (i0 := sk t i0 + 1) (V := itF t cdLt cLo cHi 3 0 (fun _ => 1) (sk t i0 + 1)) hx hG tp.at tk (by rw [hI_same]; omega) (by have := lk_in tk hl (by omega : lk t i0 ≠ -1); omega) (by rw [hI_sI, if_neg (by omega)]; exact g3) (by omega) rfl) rfl rfl (by decide) (by decide) rfl rfl rfl (Nat.le_of_ble_eq_true rfl) ?_
              rintro rv h2 ⟨rfl, at2, it2, kp2⟩
              exact wp_zret dX4_clause_107 rfl b2i_z (by
      rw [if_neg (by rw [z1]; omega), if_neg (by omega), if_pos ⟨c73, by omega⟩] at hV
      refine ⟨?_, ?_, fun k q2 e => ?_, fun i hi => by rw [kp2.1 _ i (by unfold Scd; omega), hI_sI, if_neg (by omega)]; exact hb i hi, ((Kp.sI (S := SG a) (Or.inl ⟨rfl, rfl⟩)).tr (kp2.mono (fun c j => by unfold Scd SG; omega)))⟩
      · subst hV; cases itF t cdLt cLo cHi 3 0 (fun _ => 1) (sk t i0 + 1) <;> rfl
      · rw [at2]; subst hV; cases itF t cdLt cLo cHi 3 0 (fun _ => 1) (sk t i0 + 1) <;> rfl
      · rw [e] at hV
        cases hv : itF t cdLt cLo cHi 3 0 (fun _ => 1) (sk t i0 + 1) with
        | inl e => rw [hv] at hV; cases hV
        | inr z =>
          rw [hv] at hV
          cases hV
          obtain ⟨i1, i2, i3, i4⟩ := it2 z.1 z.2 hv
          have ke : ∀ c j, ¬ Scd a c j → ¬ (c = 1 ∧ j = 2) → hI h2 c j = hI h c j := fun c j z1 z2 => by rw [kp2.1 c j z1, hI_sI, if_neg z2]
          refine ⟨by rw [ke a 4 (by unfold Scd; omega) (by omega)]; exact g1, by rw [ke a 5 (by unfold Scd; omega) (by omega)]; exact g.2.1, by rw [i1]; show _ = ((q.2.2 ++ [_]).length : Int); rw [List.length_append, List.length_singleton]; omega, fun i hi => by rw [ke _ i (by unfold Scd; omega) (by omega)]; exact g.2.2.2.1 i hi, fun l hl => by rw [ke _ l (by unfold Scd; omega) (by omega)]; exact g.2.2.2.2.1 l hl, fun s hs => ?_, by rw [ke 3 1 (by unfold Scd; omega) (by omega)]; exact g7⟩
          show _ = ((q.2.2 ++ [_]).getD s (1, 0)).1 ∧ _ = ((q.2.2 ++ [_]).getD s (1, 0)).2
          by_cases w : s = q.2.2.length
          · rw [w, i2, i3]; simp
          · obtain ⟨j1, j2⟩ := i4 s w
            rw [j1, j2, hI_sI, if_neg (by omega), hI_sI, if_neg (by omega)]
            have := g.2.2.2.2.2.1 s hs
            rw [this.1, this.2, List.getD_eq_getElem?_getD, List.getD_eq_getElem?_getD]
            rcases Nat.lt_or_ge s q.2.2.length with y | y
            · rw [List.getElem?_append_left y]; exact ⟨rfl, rfl⟩
            · rw [List.getElem?_eq_none y, List.getElem?_eq_none (by rw [List.length_append, List.length_singleton]; omega)]; exact ⟨rfl, rfl⟩)
      · refine wp_aload_n dX4_clause_48 rfl ?_
        refine wp_dup dX4_clause_49 rfl ?_
        refine wp_getI dX4_clause_50 flX4_24 rfl rfl ?_
        rw [hI_same]
        refine wp_iconst dX4_clause_53 ?_
        refine wp_iadd dX4_clause_54 ?_
        refine wp_putI dX4_clause_55 plX4_24 rfl rfl ?_
        rw [sI_sI]
        refine wp_aload_n dX4_clause_58 rfl ?_
        refine wp_iconst dX4_clause_59 ?_
        refine wp_putZ dX4_clause_60 plX4_15 rfl rfl (by omega) ?_
        refine wp_aload_n dX4_clause_63 rfl ?_
        refine wp_aload_n dX4_clause_64 rfl ?_
        refine wp_aload_n dX4_clause_65 rfl ?_
        refine wp_callV dX4_clause_66 mlX4_54 mvX4_table (S_X4_table (i0 := sk t i0 + 1) (V := itF t tbL tLo tHi 6 0 (fun j => if j = 0 then 1 else 0) (sk t i0 + 1)) hx hG (tp.at.oth (by decide) (by decide)) tk (by rw [hI_sI, if_neg (by omega), hI_same]; omega) (by have := lk_in tk hl (by omega : lk t i0 ≠ -1); omega) rfl) rfl rfl (by decide) (by decide) rfl rfl rfl (Nat.le_of_ble_eq_true rfl) ?_
        rintro rv h2 ⟨rfl, at2, it2, kp2⟩
        exact wp_zret dX4_clause_69 rfl b2i_z (by
      rw [if_neg (by rw [z1]; omega), if_pos ⟨c38, by cases hq2 : q.2.1 with | none => rfl | some v => exact absurd (by rw [hq2]; rfl) c45⟩] at hV
      refine ⟨?_, ?_, fun k q2 e => ?_, fun i hi => by rw [kp2.1 _ i (by unfold Stb; omega), hI_sI, if_neg (by omega), hI_sI, if_neg (by omega)]; exact hb i hi, (((Kp.sI (S := SG a) (Or.inl ⟨rfl, rfl⟩)).tr (Kp.sI (Or.inr (Or.inl rfl)))).tr (kp2.mono (fun c j => by unfold Stb SG; omega)))⟩
      · subst hV; cases itF t tbL tLo tHi 6 0 (fun j => if j = 0 then 1 else 0) (sk t i0 + 1) <;> rfl
      · rw [at2]; subst hV; cases itF t tbL tLo tHi 6 0 (fun j => if j = 0 then 1 else 0) (sk t i0 + 1) <;> rfl
      · rw [e] at hV
        cases hv : itF t tbL tLo tHi 6 0 (fun j => if j = 0 then 1 else 0) (sk t i0 + 1) with
        | inl e => rw [hv] at hV; cases hV
        | inr z =>
          rw [hv] at hV
          cases hV
          obtain ⟨i1, i2⟩ := it2 z.1 z.2 hv
          have ke : ∀ c j, ¬ Stb a c j → ¬ (c = 1 ∧ j = 2) → ¬ (c = 3 ∧ j = 1) → hI h2 c j = hI h c j := fun c j z1 z2 z3 => by rw [kp2.1 c j z1, hI_sI, if_neg z3, hI_sI, if_neg z2]
          exact ⟨by rw [ke a 4 (by unfold Stb; omega) (by omega) (by omega)]; exact g1, i1, by rw [ke a 6 (by unfold Stb; omega) (by omega) (by omega)]; exact g3, fun i hi => by rw [ke _ i (by unfold Stb; omega) (by omega) (by omega)]; exact g.2.2.2.1 i hi, i2, fun s hs => by rw [ke _ s (by unfold Stb; omega) (by omega) (by omega), ke _ s (by unfold Stb; omega) (by omega) (by omega)]; exact g.2.2.2.2.2.1 s hs, by rw [kp2.1 3 1 (by unfold Stb; omega), hI_same]; rfl⟩)
  · refine wp_aload_n dX4_clause_11 rfl ?_
    refine wp_getI dX4_clause_12 flX4_42 (gs0 hG) rfl ?_
    rw [hI_sI, if_neg (by omega), g1]
    refine wp_ifne 35 dX4_clause_15 (by decide) (by unfold InR; omega) (fun c15 => ?_) (fun c15 => ?_)
    · refine wp_iload_n dX4_clause_35 rfl ?_
      refine wp_bipush dX4_clause_36 rfl ?_
      refine wp_icmpne 70 dX4_clause_38 (by decide) (by unfold InR; omega) (by unfold InR; omega) (fun c38 => ?_) (fun c38 => ?_)
      · refine wp_iload_n dX4_clause_70 rfl ?_
        refine wp_bipush dX4_clause_71 rfl ?_
        refine wp_icmpne 108 dX4_clause_73 (by decide) (by unfold InR; omega) (by unfold InR; omega) (fun c73 => ?_) (fun c73 => ?_)
        · refine wp_iconst dX4_clause_108 ?_
          exact wp_zret dX4_clause_109 rfl (by omega) (by
      rw [if_neg (by rw [z1]; omega), if_neg (by rintro ⟨z3, z4⟩; first | omega | (exact absurd c45 (by rw [z4]; decide))), if_neg (by omega)] at hV
      subst hV
      exact ⟨rfl, hI_same, fun k q2 e => (by cases e), fun i hi => by rw [hI_sI, if_neg (by omega)]; exact hb i hi, Kp.sI (S := SG a) (Or.inl ⟨rfl, rfl⟩)⟩)
        · refine wp_aload_n dX4_clause_76 rfl ?_
          refine wp_getI dX4_clause_77 flX4_57 (gs0 hG) rfl ?_
          rw [hI_sI, if_neg (by omega), g3]
          refine wp_iflt 108 dX4_clause_80 (by decide) (by unfold InR; omega) (fun c80 => ?_) (fun c80 => ?_)
          · refine wp_iconst dX4_clause_108 ?_
            exact wp_zret dX4_clause_109 rfl (by omega) (by
      rw [if_neg (by rw [z1]; omega), if_neg (by rintro ⟨z3, z4⟩; first | omega | (exact absurd c45 (by rw [z4]; decide))), if_neg (by omega)] at hV
      subst hV
      exact ⟨rfl, hI_same, fun k q2 e => (by cases e), fun i hi => by rw [hI_sI, if_neg (by omega)]; exact hb i hi, Kp.sI (S := SG a) (Or.inl ⟨rfl, rfl⟩)⟩)
          · refine wp_aload_n dX4_clause_83 rfl ?_
            refine wp_getI dX4_clause_84 flX4_57 (gs0 hG) rfl ?_
            rw [hI_sI, if_neg (by omega), g3]
            refine wp_iconst dX4_clause_87 ?_
            refine wp_icmpge 108 dX4_clause_88 (by decide) (by unfold InR; omega) (by unfold InR; omega) (fun c88 => ?_) (fun c88 => ?_)
            · refine wp_iconst dX4_clause_108 ?_
              exact wp_zret dX4_clause_109 rfl (by omega) (by
      rw [if_neg (by rw [z1]; omega), if_neg (by rintro ⟨z3, z4⟩; first | omega | (exact absurd c45 (by rw [z4]; decide))), if_neg (by omega)] at hV
      subst hV
      exact ⟨rfl, hI_same, fun k q2 e => (by cases e), fun i hi => by rw [hI_sI, if_neg (by omega)]; exact hb i hi, Kp.sI (S := SG a) (Or.inl ⟨rfl, rfl⟩)⟩)
            · refine wp_aload_n dX4_clause_91 rfl ?_
              refine wp_dup dX4_clause_92 rfl ?_
              refine wp_getI dX4_clause_93 flX4_24 rfl rfl ?_
              rw [hI_same]
              refine wp_iconst dX4_clause_96 ?_
              refine wp_iadd dX4_clause_97 ?_
              refine wp_putI dX4_clause_98 plX4_24 rfl rfl ?_
              rw [sI_sI]
              refine wp_aload_n dX4_clause_101 rfl ?_
              refine wp_aload_n dX4_clause_102 rfl ?_
              refine wp_aload_n dX4_clause_103 rfl ?_
              refine wp_callV dX4_clause_104 mlX4_60 mvX4_cardSort (S_X4_cardSort (n := q.2.2.length) (i0 := sk t i0 + 1) (V := itF t cdLt cLo cHi 3 0 (fun _ => 1) (sk t i0 + 1)) hx hG tp.at tk (by rw [hI_same]; omega) (by have := lk_in tk hl (by omega : lk t i0 ≠ -1); omega) (by rw [hI_sI, if_neg (by omega)]; exact g3) (by omega) rfl) rfl rfl (by decide) (by decide) rfl rfl rfl (Nat.le_of_ble_eq_true rfl) ?_
              rintro rv h2 ⟨rfl, at2, it2, kp2⟩
              exact wp_zret dX4_clause_107 rfl b2i_z (by
      rw [if_neg (by rw [z1]; omega), if_neg (by omega), if_pos ⟨c73, by omega⟩] at hV
      refine ⟨?_, ?_, fun k q2 e => ?_, fun i hi => by rw [kp2.1 _ i (by unfold Scd; omega), hI_sI, if_neg (by omega)]; exact hb i hi, ((Kp.sI (S := SG a) (Or.inl ⟨rfl, rfl⟩)).tr (kp2.mono (fun c j => by unfold Scd SG; omega)))⟩
      · subst hV; cases itF t cdLt cLo cHi 3 0 (fun _ => 1) (sk t i0 + 1) <;> rfl
      · rw [at2]; subst hV; cases itF t cdLt cLo cHi 3 0 (fun _ => 1) (sk t i0 + 1) <;> rfl
      · rw [e] at hV
        cases hv : itF t cdLt cLo cHi 3 0 (fun _ => 1) (sk t i0 + 1) with
        | inl e => rw [hv] at hV; cases hV
        | inr z =>
          rw [hv] at hV
          cases hV
          obtain ⟨i1, i2, i3, i4⟩ := it2 z.1 z.2 hv
          have ke : ∀ c j, ¬ Scd a c j → ¬ (c = 1 ∧ j = 2) → hI h2 c j = hI h c j := fun c j z1 z2 => by rw [kp2.1 c j z1, hI_sI, if_neg z2]
          refine ⟨by rw [ke a 4 (by unfold Scd; omega) (by omega)]; exact g1, by rw [ke a 5 (by unfold Scd; omega) (by omega)]; exact g.2.1, by rw [i1]; show _ = ((q.2.2 ++ [_]).length : Int); rw [List.length_append, List.length_singleton]; omega, fun i hi => by rw [ke _ i (by unfold Scd; omega) (by omega)]; exact g.2.2.2.1 i hi, fun l hl => by rw [ke _ l (by unfold Scd; omega) (by omega)]; exact g.2.2.2.2.1 l hl, fun s hs => ?_, by rw [ke 3 1 (by unfold Scd; omega) (by omega)]; exact g7⟩
          show _ = ((q.2.2 ++ [_]).getD s (1, 0)).1 ∧ _ = ((q.2.2 ++ [_]).getD s (1, 0)).2
          by_cases w : s = q.2.2.length
          · rw [w, i2, i3]; simp
          · obtain ⟨j1, j2⟩ := i4 s w
            rw [j1, j2, hI_sI, if_neg (by omega), hI_sI, if_neg (by omega)]
            have := g.2.2.2.2.2.1 s hs
            rw [this.1, this.2, List.getD_eq_getElem?_getD, List.getD_eq_getElem?_getD]
            rcases Nat.lt_or_ge s q.2.2.length with y | y
            · rw [List.getElem?_append_left y]; exact ⟨rfl, rfl⟩
            · rw [List.getElem?_eq_none y, List.getElem?_eq_none (by rw [List.length_append, List.length_singleton]; omega)]; exact ⟨rfl, rfl⟩)
      · refine wp_aload_n dX4_clause_41 rfl ?_
        refine wp_getI dX4_clause_42 flX4_15 rfl rfl ?_
        rw [hI_sI, if_neg (by omega), g7]
        refine wp_ifneb 70 dX4_clause_45 (by decide) (fun c45 => ?_) (fun c45 => ?_)
        · refine wp_iload_n dX4_clause_70 rfl ?_
          refine wp_bipush dX4_clause_71 rfl ?_
          refine wp_icmpne 108 dX4_clause_73 (by decide) (by unfold InR; omega) (by unfold InR; omega) (fun c73 => ?_) (fun c73 => ?_)
          · refine wp_iconst dX4_clause_108 ?_
            exact wp_zret dX4_clause_109 rfl (by omega) (by
      rw [if_neg (by rw [z1]; omega), if_neg (by rintro ⟨z3, z4⟩; first | omega | (exact absurd c45 (by rw [z4]; decide))), if_neg (by omega)] at hV
      subst hV
      exact ⟨rfl, hI_same, fun k q2 e => (by cases e), fun i hi => by rw [hI_sI, if_neg (by omega)]; exact hb i hi, Kp.sI (S := SG a) (Or.inl ⟨rfl, rfl⟩)⟩)
          · refine wp_aload_n dX4_clause_76 rfl ?_
            refine wp_getI dX4_clause_77 flX4_57 (gs0 hG) rfl ?_
            rw [hI_sI, if_neg (by omega), g3]
            refine wp_iflt 108 dX4_clause_80 (by decide) (by unfold InR; omega) (fun c80 => ?_) (fun c80 => ?_)
            · refine wp_iconst dX4_clause_108 ?_
              exact wp_zret dX4_clause_109 rfl (by omega) (by
      rw [if_neg (by rw [z1]; omega), if_neg (by rintro ⟨z3, z4⟩; first | omega | (exact absurd c45 (by rw [z4]; decide))), if_neg (by omega)] at hV
      subst hV
      exact ⟨rfl, hI_same, fun k q2 e => (by cases e), fun i hi => by rw [hI_sI, if_neg (by omega)]; exact hb i hi, Kp.sI (S := SG a) (Or.inl ⟨rfl, rfl⟩)⟩)
            · refine wp_aload_n dX4_clause_83 rfl ?_
              refine wp_getI dX4_clause_84 flX4_57 (gs0 hG) rfl ?_
              rw [hI_sI, if_neg (by omega), g3]
              refine wp_iconst dX4_clause_87 ?_
              refine wp_icmpge 108 dX4_clause_88 (by decide) (by unfold InR; omega) (by unfold InR; omega) (fun c88 => ?_) (fun c88 => ?_)
              · refine wp_iconst dX4_clause_108 ?_
                exact wp_zret dX4_clause_109 rfl (by omega) (by
      rw [if_neg (by rw [z1]; omega), if_neg (by rintro ⟨z3, z4⟩; first | omega | (exact absurd c45 (by rw [z4]; decide))), if_neg (by omega)] at hV
      subst hV
      exact ⟨rfl, hI_same, fun k q2 e => (by cases e), fun i hi => by rw [hI_sI, if_neg (by omega)]; exact hb i hi, Kp.sI (S := SG a) (Or.inl ⟨rfl, rfl⟩)⟩)
              · refine wp_aload_n dX4_clause_91 rfl ?_
                refine wp_dup dX4_clause_92 rfl ?_
                refine wp_getI dX4_clause_93 flX4_24 rfl rfl ?_
                rw [hI_same]
                refine wp_iconst dX4_clause_96 ?_
                refine wp_iadd dX4_clause_97 ?_
                refine wp_putI dX4_clause_98 plX4_24 rfl rfl ?_
                rw [sI_sI]
                refine wp_aload_n dX4_clause_101 rfl ?_
                refine wp_aload_n dX4_clause_102 rfl ?_
                refine wp_aload_n dX4_clause_103 rfl ?_
                refine wp_callV dX4_clause_104 mlX4_60 mvX4_cardSort (S_X4_cardSort (n := q.2.2.length) (i0 := sk t i0 + 1) (V := itF t cdLt cLo cHi 3 0 (fun _ => 1) (sk t i0 + 1)) hx hG tp.at tk (by rw [hI_same]; omega) (by have := lk_in tk hl (by omega : lk t i0 ≠ -1); omega) (by rw [hI_sI, if_neg (by omega)]; exact g3) (by omega) rfl) rfl rfl (by decide) (by decide) rfl rfl rfl (Nat.le_of_ble_eq_true rfl) ?_
                rintro rv h2 ⟨rfl, at2, it2, kp2⟩
                exact wp_zret dX4_clause_107 rfl b2i_z (by
      rw [if_neg (by rw [z1]; omega), if_neg (by omega), if_pos ⟨c73, by omega⟩] at hV
      refine ⟨?_, ?_, fun k q2 e => ?_, fun i hi => by rw [kp2.1 _ i (by unfold Scd; omega), hI_sI, if_neg (by omega)]; exact hb i hi, ((Kp.sI (S := SG a) (Or.inl ⟨rfl, rfl⟩)).tr (kp2.mono (fun c j => by unfold Scd SG; omega)))⟩
      · subst hV; cases itF t cdLt cLo cHi 3 0 (fun _ => 1) (sk t i0 + 1) <;> rfl
      · rw [at2]; subst hV; cases itF t cdLt cLo cHi 3 0 (fun _ => 1) (sk t i0 + 1) <;> rfl
      · rw [e] at hV
        cases hv : itF t cdLt cLo cHi 3 0 (fun _ => 1) (sk t i0 + 1) with
        | inl e => rw [hv] at hV; cases hV
        | inr z =>
          rw [hv] at hV
          cases hV
          obtain ⟨i1, i2, i3, i4⟩ := it2 z.1 z.2 hv
          have ke : ∀ c j, ¬ Scd a c j → ¬ (c = 1 ∧ j = 2) → hI h2 c j = hI h c j := fun c j z1 z2 => by rw [kp2.1 c j z1, hI_sI, if_neg z2]
          refine ⟨by rw [ke a 4 (by unfold Scd; omega) (by omega)]; exact g1, by rw [ke a 5 (by unfold Scd; omega) (by omega)]; exact g.2.1, by rw [i1]; show _ = ((q.2.2 ++ [_]).length : Int); rw [List.length_append, List.length_singleton]; omega, fun i hi => by rw [ke _ i (by unfold Scd; omega) (by omega)]; exact g.2.2.2.1 i hi, fun l hl => by rw [ke _ l (by unfold Scd; omega) (by omega)]; exact g.2.2.2.2.1 l hl, fun s hs => ?_, by rw [ke 3 1 (by unfold Scd; omega) (by omega)]; exact g7⟩
          show _ = ((q.2.2 ++ [_]).getD s (1, 0)).1 ∧ _ = ((q.2.2 ++ [_]).getD s (1, 0)).2
          by_cases w : s = q.2.2.length
          · rw [w, i2, i3]; simp
          · obtain ⟨j1, j2⟩ := i4 s w
            rw [j1, j2, hI_sI, if_neg (by omega), hI_sI, if_neg (by omega)]
            have := g.2.2.2.2.2.1 s hs
            rw [this.1, this.2, List.getD_eq_getElem?_getD, List.getD_eq_getElem?_getD]
            rcases Nat.lt_or_ge s q.2.2.length with y | y
            · rw [List.getElem?_append_left y]; exact ⟨rfl, rfl⟩
            · rw [List.getElem?_eq_none y, List.getElem?_eq_none (by rw [List.length_append, List.length_singleton]; omega)]; exact ⟨rfl, rfl⟩)
        · refine wp_aload_n dX4_clause_48 rfl ?_
          refine wp_dup dX4_clause_49 rfl ?_
          refine wp_getI dX4_clause_50 flX4_24 rfl rfl ?_
          rw [hI_same]
          refine wp_iconst dX4_clause_53 ?_
          refine wp_iadd dX4_clause_54 ?_
          refine wp_putI dX4_clause_55 plX4_24 rfl rfl ?_
          rw [sI_sI]
          refine wp_aload_n dX4_clause_58 rfl ?_
          refine wp_iconst dX4_clause_59 ?_
          refine wp_putZ dX4_clause_60 plX4_15 rfl rfl (by omega) ?_
          refine wp_aload_n dX4_clause_63 rfl ?_
          refine wp_aload_n dX4_clause_64 rfl ?_
          refine wp_aload_n dX4_clause_65 rfl ?_
          refine wp_callV dX4_clause_66 mlX4_54 mvX4_table (S_X4_table (i0 := sk t i0 + 1) (V := itF t tbL tLo tHi 6 0 (fun j => if j = 0 then 1 else 0) (sk t i0 + 1)) hx hG (tp.at.oth (by decide) (by decide)) tk (by rw [hI_sI, if_neg (by omega), hI_same]; omega) (by have := lk_in tk hl (by omega : lk t i0 ≠ -1); omega) rfl) rfl rfl (by decide) (by decide) rfl rfl rfl (Nat.le_of_ble_eq_true rfl) ?_
          rintro rv h2 ⟨rfl, at2, it2, kp2⟩
          exact wp_zret dX4_clause_69 rfl b2i_z (by
      rw [if_neg (by rw [z1]; omega), if_pos ⟨c38, by cases hq2 : q.2.1 with | none => rfl | some v => exact absurd (by rw [hq2]; rfl) c45⟩] at hV
      refine ⟨?_, ?_, fun k q2 e => ?_, fun i hi => by rw [kp2.1 _ i (by unfold Stb; omega), hI_sI, if_neg (by omega), hI_sI, if_neg (by omega)]; exact hb i hi, (((Kp.sI (S := SG a) (Or.inl ⟨rfl, rfl⟩)).tr (Kp.sI (Or.inr (Or.inl rfl)))).tr (kp2.mono (fun c j => by unfold Stb SG; omega)))⟩
      · subst hV; cases itF t tbL tLo tHi 6 0 (fun j => if j = 0 then 1 else 0) (sk t i0 + 1) <;> rfl
      · rw [at2]; subst hV; cases itF t tbL tLo tHi 6 0 (fun j => if j = 0 then 1 else 0) (sk t i0 + 1) <;> rfl
      · rw [e] at hV
        cases hv : itF t tbL tLo tHi 6 0 (fun j => if j = 0 then 1 else 0) (sk t i0 + 1) with
        | inl e => rw [hv] at hV; cases hV
        | inr z =>
          rw [hv] at hV
          cases hV
          obtain ⟨i1, i2⟩ := it2 z.1 z.2 hv
          have ke : ∀ c j, ¬ Stb a c j → ¬ (c = 1 ∧ j = 2) → ¬ (c = 3 ∧ j = 1) → hI h2 c j = hI h c j := fun c j z1 z2 z3 => by rw [kp2.1 c j z1, hI_sI, if_neg z3, hI_sI, if_neg z2]
          exact ⟨by rw [ke a 4 (by unfold Stb; omega) (by omega) (by omega)]; exact g1, i1, by rw [ke a 6 (by unfold Stb; omega) (by omega) (by omega)]; exact g3, fun i hi => by rw [ke _ i (by unfold Stb; omega) (by omega) (by omega)]; exact g.2.2.2.1 i hi, i2, fun s hs => by rw [ke _ s (by unfold Stb; omega) (by omega) (by omega), ke _ s (by unfold Stb; omega) (by omega) (by omega)]; exact g.2.2.2.2.2.1 s hs, by rw [kp2.1 3 1 (by unfold Stb; omega), hI_same]; rfl⟩)
    · refine wp_aload_n dX4_clause_18 rfl ?_
      refine wp_dup dX4_clause_19 rfl ?_
      refine wp_getI dX4_clause_20 flX4_24 rfl rfl ?_
      rw [hI_same]
      refine wp_iconst dX4_clause_23 ?_
      refine wp_iadd dX4_clause_24 ?_
      refine wp_putI dX4_clause_25 plX4_24 rfl rfl ?_
      rw [sI_sI]
      refine wp_aload_n dX4_clause_28 rfl ?_
      refine wp_aload_n dX4_clause_29 rfl ?_
      refine wp_aload_n dX4_clause_30 rfl ?_
      refine wp_callV dX4_clause_31 mlX4_51 mvX4_ground (S_X4_ground (i0 := sk t i0 + 1) (V := grF t 24 [] (sk t i0 + 1)) hG tp.at tk (by rw [hI_same]; omega) (by have := lk_in tk hl (by omega : lk t i0 ≠ -1); omega) (fun i hi => by rw [hI_sI, if_neg (by omega)]; exact hb i hi) rfl) rfl rfl (by decide) (by decide) rfl rfl rfl (Nat.le_of_ble_eq_true rfl) ?_
      rintro rv h2 ⟨rfl, at2, it2, hb2, kp2⟩
      exact wp_zret dX4_clause_34 rfl b2i_z (by
      rw [if_pos ⟨c8, z1.mpr (by omega)⟩] at hV
      refine ⟨?_, ?_, fun k q2 e => ?_, hb2, ((Kp.sI (S := SG a) (Or.inl ⟨rfl, rfl⟩)).tr (kp2.mono (fun c j => by unfold Sgr SG; omega)))⟩
      · subst hV; cases grF t 24 [] (sk t i0 + 1) <;> rfl
      · rw [at2]; subst hV; cases grF t 24 [] (sk t i0 + 1) <;> rfl
      · rw [e] at hV
        cases hv : grF t 24 [] (sk t i0 + 1) with
        | inl e => rw [hv] at hV; cases hV
        | inr z =>
          rw [hv] at hV
          cases hV
          obtain ⟨i1, i2⟩ := it2 z.1 z.2 hv
          have ke : ∀ c j, ¬ Sgr a c j → ¬ (c = 1 ∧ j = 2) → hI h2 c j = hI h c j := fun c j z1 z2 => by rw [kp2.1 c j z1, hI_sI, if_neg z2]
          exact ⟨i1, by rw [ke a 5 (by unfold Sgr; omega) (by omega)]; exact g.2.1, by rw [ke a 6 (by unfold Sgr; omega) (by omega)]; exact g3, i2, fun l hl => by rw [ke _ l (by unfold Sgr; omega) (by omega)]; exact g.2.2.2.2.1 l hl, fun s hs => by rw [ke _ s (by unfold Sgr; omega) (by omega), ke _ s (by unfold Sgr; omega) (by omega)]; exact g.2.2.2.2.2.1 s hs, by rw [ke 3 1 (by unfold Sgr; omega) (by omega)]; exact g7⟩)

