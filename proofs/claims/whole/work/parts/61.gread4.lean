/-! the GARDEN is read: the whole of it -/
def rdV {α : Type} (r : Nat ⊕ α) : Int := match r with
  | .inl e => e
  | .inr _ => -1
def gEnd (t : List Int) (W : Nat ⊕ (Nat × GS)) : Nat ⊕ Gdn := match W with
  | .inl e => .inl e
  | .inr (k, q) => if lk t k ≠ -1 then .inl (sk t k) else if q.1 = [] ∨ (q.1.length : Int) / 2 ≤ gIt q 0 then .inl t.length else .inr (gOf q)
theorem gRd_eq (t : List Int) : gRd t = gEnd t (gsF t 161 ([], none, []) 0) := rfl
theorem HB.at {h : Hp} {a : Nat} (hb : HB h a) (hG : isG a) {v : Int} : HB (sI h 1 2 v) a := fun i hi => by rw [hI_sI, if_neg (by rcases hG with q | q <;> omega)]; exact hb i hi
theorem DG.at {h : Hp} {a : Nat} {q : GS} (g : DG h a q) (hG : isG a) {v : Int} : DG (sI h 1 2 v) a q := g.kp (S := fun c j => c = 1 ∧ j = 2) (Kp.sI ⟨rfl, rfl⟩) (by rcases hG with q | q <;> omega)

set_option maxRecDepth 20000 in
theorem S_X4_read {X : Cx} {h : Hp} {a : Nat} {t : List Int} {R : Nat ⊕ Gdn} (hx : XOK X) (hG : isG a) (tp : TPh h t) (tk : TOK t) (hb : HB h a) (hR : R = gRd t) : Spec X mX4_read 20 [.ref (adr X 3), .ref (adr X 1), .ref (adr X a)] h (fun rv h' => rv = some (.int (iI (rdV R))) ∧ (∀ G, R = .inr G → ∃ q, G = gOf q ∧ GSOK q ∧ DG h' a q) ∧ HB h' a ∧ Kp (SG a) h h') := by
  have ga : 20 ≤ a ∧ a ≤ 25 := by rcases hG with q | q <;> omega
  have t160 := tk.1
  obtain ⟨W, hW0⟩ : ∃ W, W = gsF t 161 ([], none, []) 0 := ⟨_, rfl⟩
  have hR0 : R = gEnd t W := by rw [hR, gRd_eq, hW0]
  refine spec_wp (Nat.le_of_ble_eq_true rfl) (by decide +kernel) ?_
  refine wp_loc [(0, .ref (adr X 3)), (1, .ref (adr X 1)), (2, .ref (adr X a))] ⟨rfl, rfl, rfl, trivial⟩ ?_
  have L : ∀ (n : Nat) (q : GS) (j : Nat) (z : Int) (h1 : Hp), (z + n = 161 ∧ 0 ≤ z ∧ z ≤ j) → (j ≤ t.length) → (TPh h1 t) → (hI h1 1 2 = j) → (DG h1 a q) → (GSOK q) → (HB h1 a) → (Kp (SG a) h h1) → (W = gsF t n q j) → WP X mX4_read 20 19 [(0, .ref (adr X 3)), (1, .ref (adr X 1)), (2, .ref (adr X a)), (3, .int (iI 1)), (4, .int (iI z))] [] h1 (fun rv h' => rv = some (.int (iI (rdV R))) ∧ (∀ G, R = .inr G → ∃ q, G = gOf q ∧ GSOK q ∧ DG h' a q) ∧ HB h' a ∧ Kp (SG a) h h') := by
    intro n
    induction n with
    | zero =>
      intro q j z h1 hn hj tp hi g hq hb kp hW
      exfalso; omega
    | succ n ih =>
      intro q j z h1 hn hj tp hi g hq hb kp hW
      refine wp_iload_n dX4_read_19 rfl ?_
      refine wp_ifeq 58 dX4_read_20 (by decide) (by unfold InR; omega) (fun c20 => ?_) (fun c20 => ?_)
      · exact absurd c20 (by decide)
      · refine wp_iload dX4_read_23 rfl ?_
        refine wp_sipush dX4_read_25 rfl ?_
        refine wp_icmpgt 58 dX4_read_28 (by decide) (by unfold InR; omega) (by unfold InR; omega) (fun c28 => ?_) (fun c28 => ?_)
        · exact absurd c28 (by omega)
        · refine wp_aload_n dX4_read_31 rfl ?_
          refine wp_aload_n dX4_read_32 rfl ?_
          refine wp_aload_n dX4_read_33 rfl ?_
          refine wp_callV dX4_read_34 mlX4_30 mvX4_clause (S_X4_clause (q := q) (V := gcF t q j) hx hG tp tk hi hj g hq hb rfl) rfl rfl (by decide) (by decide) rfl rfl rfl (Nat.le_of_ble_eq_true rfl) ?_
          rintro rv h2 ⟨rfl, at2, g2, hb2, kp2a⟩
          have kp2 := kp.tr kp2a
          refine wp_ifneb 45 dX4_read_37 (by decide) (fun c37 => ?_) (fun c37 => ?_)
          · obtain ⟨k, q2, hV⟩ := isR_ok c37
            have gcp := gcF_b tk hq hj
            rw [hV] at at2 gcp
            have hk : k ≤ t.length := gcp.2.1
            have hik : j < k := gcp.1
            have hq2 : GSOK q2 := gcp.2.2
            have g2 := g2 k q2 hV
            have tp2 := tp.kp kp2a (by unfold SG; omega)
            have at2 : hI h2 1 2 = ((k : Nat) : Int) := at2
            have sk2 := sk_b t hk
            have lbk := lk_b tk hk
            rw [gsF, hV] at hW
            dsimp only at hW
            refine wp_aload_n dX4_read_45 rfl ?_
            refine wp_bipush dX4_read_46 rfl ?_
            refine wp_callV dX4_read_48 mlX4_34 mvX7_pass (S_X7_pass (i := k) tp2 tk at2 hk (by unfold InR; omega)) rfl rfl (by decide) (by decide) rfl rfl rfl (Nat.le_of_ble_eq_true rfl) ?_
            rintro rv h3 ⟨rfl, rfl⟩
            by_cases hs : lk t k = 59
            · rw [if_pos hs] at hW
              rw [b2i_t hs, if_pos hs]
              refine wp_istore_n dX4_read_51 (by decide) ?_
              refine wp_iinc dX4_read_52 rfl (by decide) ?_
              refine wp_goto 19 dX4_read_55 (by decide) ?_
              refine wp_loc [(0, .ref (adr X 3)), (1, .ref (adr X 1)), (2, .ref (adr X a)), (3, .int (iI 1)), (4, .int (iI (z + 1)))] ⟨rfl, rfl, rfl, rfl, rfl, trivial⟩ ?_
              exact ih q2 (sk t k + 1) (z + 1) _ (by omega) (by have := (lk_in tk hk (by omega : lk t k ≠ -1)).1; omega) tp2.at (by rw [hI_same]; omega) (g2.at hG) hq2 (hb2.at hG) (kp2.tr (Kp.sI (Or.inl ⟨rfl, rfl⟩))) hW
            · rw [if_neg hs] at hW
              rw [b2i_f hs, if_neg hs]
              have tp2 := tp2
              have hb2 := hb2.at hG (v := ((sk t k : Nat) : Int))
              have g2 := g2.at hG (v := ((sk t k : Nat) : Int))
              have kp2 := kp2.tr (Kp.sI (a := 1) (j := 2) (v := ((sk t k : Nat) : Int)) (Or.inl ⟨rfl, rfl⟩))
              have z1 : q2.1 = [] ↔ q2.1.length = 0 := List.length_eq_zero_iff.symm
              have l24 : q2.1.length ≤ 24 := by rcases hq2.1 with z | z; (rw [z]; decide); omega
              have b0 := gIt_b hq2 0 (by decide) (by decide)
              have tl0 : tLo 0 = 1 := rfl
              have th0 : tHi 0 = 11 := rfl
              refine wp_istore_n dX4_read_51 (by decide) ?_
              refine wp_iinc dX4_read_52 rfl (by decide) ?_
              refine wp_goto 19 dX4_read_55 (by decide) ?_
              refine wp_iload_n dX4_read_19 rfl ?_
              refine wp_ifeq 58 dX4_read_20 (by decide) (by unfold InR; omega) (fun c20 => ?_) (fun c20 => ?_)
              · refine wp_aload_n dX4_read_58 rfl ?_
                refine wp_callV dX4_read_59 mlX4_38 mvX7_sign (S_X7_sign (i := sk t k) tp2.at tk hI_same sk2.2) rfl rfl (by decide) (by decide) rfl rfl rfl (Nat.le_of_ble_eq_true rfl) ?_
                rintro rv h3 ⟨rfl, rfl⟩
                rw [lk_sk t hk, sk_sk t hk, sI_sI]
                refine wp_iconst dX4_read_62 ?_
                refine wp_icmpeq 71 dX4_read_63 (by decide) (by unfold InR; omega) (by unfold InR; omega) (fun c63 => ?_) (fun c63 => ?_)
                · refine wp_aload_n dX4_read_71 rfl ?_
                  refine wp_getI dX4_read_72 flX4_42 (gs0 hG) rfl ?_
                  rw [g2.1]
                  refine wp_ifeq 91 dX4_read_75 (by decide) (by unfold InR; omega) (fun c75 => ?_) (fun c75 => ?_)
                  · refine wp_aload_n dX4_read_91 rfl ?_
                    refine wp_getI dX4_read_92 flX4_48 rfl rfl ?_
                    rw [tp2.at.1]
                    refine wp_goto 99 dX4_read_95 (by decide) ?_
                    exact wp_iret dX4_read_99 rfl (by
                rw [hW] at hR0
                dsimp only [gEnd] at hR0
                rw [if_neg (fun z => z c63)] at hR0
                first
                | (rw [if_pos (by first | exact Or.inl (z1.mpr (by omega)) | exact Or.inr (by omega))] at hR0; subst hR0; exact ⟨rfl, fun G e => (by cases e), hb2, kp2⟩)
                | (rw [if_neg (fun z => z.elim (fun y => by rw [y] at c75; exact c75 rfl) (fun y => by omega))] at hR0; subst hR0; exact ⟨rfl, fun G e => (by cases e; exact ⟨q2, rfl, hq2, g2⟩), hb2, kp2⟩))
                  · refine wp_aload_n dX4_read_78 rfl ?_
                    refine wp_getI dX4_read_79 flX4_45 (gs0 hG) rfl ?_
                    rw [g2.2.1]
                    refine wp_aload_n dX4_read_82 rfl ?_
                    refine wp_getI dX4_read_83 flX4_42 (gs0 hG) rfl ?_
                    rw [g2.1]
                    refine wp_iconst dX4_read_86 ?_
                    refine wp_idivp dX4_read_87 (by omega) (by omega) (by unfold InR; omega) (by unfold InR; omega) ?_
                    refine wp_icmplt 98 dX4_read_88 (by decide) (by unfold InR; omega) (by unfold InR; omega) (fun c88 => ?_) (fun c88 => ?_)
                    · refine wp_iconst dX4_read_98 ?_
                      exact wp_iret dX4_read_99 rfl (by
                rw [hW] at hR0
                dsimp only [gEnd] at hR0
                rw [if_neg (fun z => z c63)] at hR0
                first
                | (rw [if_pos (by first | exact Or.inl (z1.mpr (by omega)) | exact Or.inr (by omega))] at hR0; subst hR0; exact ⟨rfl, fun G e => (by cases e), hb2, kp2⟩)
                | (rw [if_neg (fun z => z.elim (fun y => by rw [y] at c75; exact c75 rfl) (fun y => by omega))] at hR0; subst hR0; exact ⟨rfl, fun G e => (by cases e; exact ⟨q2, rfl, hq2, g2⟩), hb2, kp2⟩))
                    · refine wp_aload_n dX4_read_91 rfl ?_
                      refine wp_getI dX4_read_92 flX4_48 rfl rfl ?_
                      rw [tp2.at.1]
                      refine wp_goto 99 dX4_read_95 (by decide) ?_
                      exact wp_iret dX4_read_99 rfl (by
                rw [hW] at hR0
                dsimp only [gEnd] at hR0
                rw [if_neg (fun z => z c63)] at hR0
                first
                | (rw [if_pos (by first | exact Or.inl (z1.mpr (by omega)) | exact Or.inr (by omega))] at hR0; subst hR0; exact ⟨rfl, fun G e => (by cases e), hb2, kp2⟩)
                | (rw [if_neg (fun z => z.elim (fun y => by rw [y] at c75; exact c75 rfl) (fun y => by omega))] at hR0; subst hR0; exact ⟨rfl, fun G e => (by cases e; exact ⟨q2, rfl, hq2, g2⟩), hb2, kp2⟩))
                · refine wp_aload_n dX4_read_66 rfl ?_
                  refine wp_getI dX4_read_67 flX4_24 rfl rfl ?_
                  rw [hI_same]
                  exact wp_iret dX4_read_70 rfl (by
                rw [hW] at hR0
                dsimp only [gEnd] at hR0
                rw [if_pos c63] at hR0
                subst hR0
                exact ⟨rfl, fun G e => (by cases e), hb2, kp2⟩)
              · exact absurd rfl c20
          · refine wp_aload_n dX4_read_40 rfl ?_
            refine wp_getI dX4_read_41 flX4_24 rfl rfl ?_
            exact wp_iret dX4_read_44 rfl (by
    obtain ⟨e, hV⟩ := isR_no c37
    rw [hV] at at2
    rw [gsF, hV] at hW
    dsimp only at hW
    rw [hW] at hR0
    subst hR0
    exact ⟨vi at2, fun G e => (by cases e), hb2, kp2⟩)
  refine wp_aload_n dX4_read_0 rfl ?_
  refine wp_callV dX4_read_1 mlX4_19 mvX3_clear (S_X3_clear hG) rfl rfl (by decide) (by decide) (gs0 hG) rfl rfl (Nat.le_of_ble_eq_true rfl) ?_
  rintro rv h1 ⟨rfl, c1, c2, c3, c4, c5, c6⟩
  refine wp_aload_n dX4_read_4 rfl ?_
  refine wp_iconst dX4_read_5 ?_
  refine wp_putZ dX4_read_6 plX4_15 rfl rfl (by omega) ?_
  refine wp_aload_n dX4_read_9 rfl ?_
  refine wp_iconst dX4_read_10 ?_
  refine wp_putI dX4_read_11 plX4_24 rfl rfl ?_
  refine wp_iconst dX4_read_14 ?_
  refine wp_istore_n dX4_read_15 (by decide) ?_
  refine wp_iconst dX4_read_16 ?_
  refine wp_istore dX4_read_17 (by decide) ?_
  have e1 : ∀ c j, ¬ ((a ≤ c ∧ c ≤ a + 4 ∧ c ≠ a + 1) ∨ (c = 3 ∧ j = 1) ∨ (c = 1 ∧ j = 2)) → hI (sI (sI h1 3 1 0) 1 2 0) c j = hI h c j := fun c j z => by rw [hI_sI, if_neg (by omega), hI_sI, if_neg (by omega), c5 c j (by omega) (by omega) (by omega) (by omega)]
  refine wp_loc [(0, .ref (adr X 3)), (1, .ref (adr X 1)), (2, .ref (adr X a)), (3, .int (iI 1)), (4, .int (iI 0))] ⟨rfl, rfl, rfl, rfl, rfl, trivial⟩ ?_
  refine L 161 ([], none, []) 0 0 _ (by omega) (Nat.zero_le _) ⟨by rw [e1 1 1 (by omega)]; exact tp.1, fun i hi => by rw [e1 2 i (by omega)]; exact tp.2 i hi⟩ hI_same ?_ GSOK.g0 (fun i hi => by rw [e1 _ i (by omega)]; exact hb i hi) ⟨fun c j z => e1 c j (by unfold SG at z; omega), c6⟩ hW0
  have e2 : ∀ c j, a ≤ c → hI (sI (sI h1 3 1 0) 1 2 0) c j = hI h1 c j := fun c j z => by rw [hI_sI, if_neg (by omega), hI_sI, if_neg (by omega)]
  refine ⟨?_, ?_, ?_, fun i hi => absurd hi (Nat.not_lt_zero i), fun l hl => ?_, fun s hs => ?_, ?_⟩
  · rw [e2 a 4 (by omega), c1]; rfl
  · rw [e2 a 5 (by omega), c2]; rfl
  · rw [e2 a 6 (by omega), c3]; rfl
  · rw [e2 _ l (by omega), (c4 l hl).1]; show (0 : Int) = if (l : Int) + 1 = 0 then 1 else 0; rw [if_neg (by omega)]
  · rw [e2 _ s (by omega), e2 _ s (by omega), (c4 s hs).2.1, (c4 s hs).2.2]; exact ⟨rfl, rfl⟩
  · rw [hI_sI, if_neg (by omega), hI_same]; rfl

