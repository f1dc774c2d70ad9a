/-! bytes of a word; the TAPE -/
theorem iAnd_b (a : Int) {b : Int} (h0 : 0 ≤ b) (h1 : b < 2147483648) : 0 ≤ iAnd a b ∧ iAnd a b ≤ b := by
  have e1 : (iI b).toBitVec.toNat = b.toNat := by
    have h2 : (iI b).toInt = b := iI_toInt ⟨by omega, h1⟩
    rw [← Int32.toInt_toBitVec, BitVec.toInt_eq_toNat_cond] at h2
    split at h2 <;> omega
  have e2 : (iI a &&& iI b).toBitVec.toNat ≤ b.toNat := by
    rw [Int32.toBitVec_and, BitVec.toNat_and, e1]
    exact Nat.and_le_right
  have e3 : iAnd a b = ((iI a &&& iI b).toBitVec.toNat : Int) := by
    unfold iAnd
    rw [← Int32.toInt_toBitVec, BitVec.toInt_eq_toNat_cond, if_pos (by omega)]
  rw [e3]
  omega
def by1 (w k : Int) : Int := iAnd (iUsh w k) 255
theorem by1_b (w k : Int) : 0 ≤ by1 w k ∧ by1 w k ≤ 255 := iAnd_b _ (by decide) (by decide)
def bsF (w : Int) : Nat → List Int
  | 0 => []
  | n + 1 => if by1 w (8 * (n : Int)) = 0 then bsF w n else by1 w (8 * (n : Int)) :: bsF w n
theorem bsF_len (w : Int) : ∀ n, (bsF w n).length ≤ n
  | 0 => Nat.le_refl _
  | n + 1 => by
    have := bsF_len w n
    unfold bsF
    split
    · omega
    · rw [List.length_cons]; omega
theorem bsF_b (w : Int) : ∀ n, ∀ b ∈ bsF w n, 1 ≤ b ∧ b ≤ 255
  | 0, b, hb => by cases hb
  | n + 1, b, hb => by
    unfold bsF at hb
    have h9 := by1_b w (8 * (n : Int))
    split at hb
    · exact bsF_b w n b hb
    · rcases List.mem_cons.mp hb with rfl | hb
      · omega
      · exact bsF_b w n b hb
/-- all but some slots as it was -/
def Kp (S : Nat → Nat → Prop) (h h' : Hp) : Prop := (∀ c j, ¬ S c j → hI h' c j = hI h c j) ∧ h'.2 = h.2
theorem Kp.rf {S : Nat → Nat → Prop} (h : Hp) : Kp S h h := ⟨fun _ _ _ => rfl, rfl⟩
theorem Kp.tr {S : Nat → Nat → Prop} {h h1 h2 : Hp} (a : Kp S h h1) (b : Kp S h1 h2) : Kp S h h2 := ⟨fun c j hc => (b.1 c j hc).trans (a.1 c j hc), b.2.trans a.2⟩
theorem Kp.mono {S T : Nat → Nat → Prop} {h h' : Hp} (a : Kp S h h') (hs : ∀ c j, S c j → T c j) : Kp T h h' := ⟨fun c j hc => a.1 c j (fun q => hc (hs c j q)), a.2⟩
theorem Kp.sI {S : Nat → Nat → Prop} {h : Hp} {a j : Nat} {v : Int} (hs : S a j) : Kp S h (sI h a j v) := ⟨fun c k hc => by rw [hI_sI, if_neg (fun q => hc (by rw [q.1, q.2]; exact hs))], rfl⟩
theorem Kp.M {S : Nat → Nat → Prop} {h h' : Hp} (a : Kp S h h') (hs : ∀ c j, S c j → c < 47) : sameM h h' := fun c hc => ⟨by funext j; exact a.1 c j (fun q => by have := hs c j q; omega), by rw [a.2], by rw [a.2]⟩
def TPh (h : Hp) (t : List Int) : Prop := hI h 1 1 = t.length ∧ ∀ i : Nat, i < t.length → hI h 2 i = t.getD i 0
def stT (c j : Nat) : Prop := c = 2 ∨ (c = 1 ∧ j = 1)
theorem TPh.app {h : Hp} {t : List Int} (a : TPh h t) {b : Int} : TPh (sI (sI h 2 t.length b) 1 1 (t.length + 1)) (t ++ [b]) := by
  refine ⟨by rw [hI_sI, if_pos ⟨rfl, rfl⟩, List.length_append]; simp, fun i hi => ?_⟩
  rw [hI_sI, if_neg (by omega), hI_sI]
  rw [List.length_append, List.length_singleton] at hi
  by_cases hc : i = t.length
  · rw [if_pos ⟨rfl, hc⟩, hc]; simp
  · rw [if_neg (fun q => hc q.2), a.2 i (by omega), List.getD_eq_getElem?_getD, List.getD_eq_getElem?_getD, List.getElem?_append_left (by omega)]

set_option maxRecDepth 20000 in
theorem S_X7_bytesIn {X : Cx} {h : Hp} {w : Int} : Spec X mX7_bytesIn 0 [.int (iI w)] h (fun rv h' => rv = some (.int (iI ((bsF w 4).length : Int))) ∧ h' = h) := by
  obtain ⟨V, hV0⟩ : ∃ V : Int, V = ((bsF w 4).length : Int) := ⟨_, rfl⟩
  rw [← hV0]
  refine spec_wp (Nat.le_of_ble_eq_true rfl) (by decide +kernel) ?_
  refine wp_loc [(0, .int (iI w))] ⟨rfl, trivial⟩ ?_
  have L : ∀ (n : Nat) (s c : Int), (s + 8 = 8 * n ∧ n ≤ 4) → (V = c + (bsF w n).length) → WP X mX7_bytesIn 0 5 [(0, .int (iI w)), (1, .int (iI c)), (2, .int (iI s))] [] h (fun rv h' => rv = some (.int (iI V)) ∧ h' = h) := by
    intro n
    induction n with
    | zero =>
      intro s c hn hV
      refine wp_iload_n dX7_bytesIn_5 rfl ?_
      refine wp_iflt 28 dX7_bytesIn_6 (by decide) (by unfold InR; omega) (fun c6 => ?_) (fun c6 => ?_)
      · refine wp_iload_n dX7_bytesIn_28 rfl ?_
        exact wp_iret dX7_bytesIn_29 rfl (⟨vi (by rw [hV]; simp [bsF]), rfl⟩)
      · exact absurd c6 (by omega)
    | succ n ih =>
      intro s c hn hV
      refine wp_iload_n dX7_bytesIn_5 rfl ?_
      refine wp_iflt 28 dX7_bytesIn_6 (by decide) (by unfold InR; omega) (fun c6 => ?_) (fun c6 => ?_)
      · exact absurd c6 (by omega)
      · refine wp_iload_n dX7_bytesIn_9 rfl ?_
        refine wp_iload_n dX7_bytesIn_10 rfl ?_
        refine wp_iushr dX7_bytesIn_11 ?_
        refine wp_sipush dX7_bytesIn_12 rfl ?_
        refine wp_iand dX7_bytesIn_15 ?_
        refine wp_ifeq 22 dX7_bytesIn_16 (by decide) (by have := by1_b w s; unfold InR; show -2147483648 ≤ by1 w s ∧ by1 w s < 2147483648; omega) (fun c16 => ?_) (fun c16 => ?_)
        · refine wp_iinc dX7_bytesIn_22 rfl (by decide) ?_
          refine wp_goto 5 dX7_bytesIn_25 (by decide) ?_
          have e : by1 w (8 * (n : Int)) = iAnd (iUsh w s) 255 := by unfold by1; congr 2; omega
          rw [bsF] at hV
          first
            | rw [if_pos (e.trans c16)] at hV
              refine wp_loc [(0, .int (iI w)), (1, .int (iI c)), (2, .int (iI (s + -8)))] ⟨rfl, rfl, rfl, trivial⟩ ?_
              exact ih (s + -8) c (by omega) hV
            | rw [if_neg (fun q => c16 (e.symm.trans q)), List.length_cons] at hV
              refine wp_loc [(0, .int (iI w)), (1, .int (iI (c + 1))), (2, .int (iI (s + -8)))] ⟨rfl, rfl, rfl, trivial⟩ ?_
              exact ih (s + -8) (c + 1) (by omega) (by omega)
        · refine wp_iinc dX7_bytesIn_19 rfl (by decide) ?_
          refine wp_iinc dX7_bytesIn_22 rfl (by decide) ?_
          refine wp_goto 5 dX7_bytesIn_25 (by decide) ?_
          have e : by1 w (8 * (n : Int)) = iAnd (iUsh w s) 255 := by unfold by1; congr 2; omega
          rw [bsF] at hV
          first
            | rw [if_pos (e.trans c16)] at hV
              refine wp_loc [(0, .int (iI w)), (1, .int (iI c)), (2, .int (iI (s + -8)))] ⟨rfl, rfl, rfl, trivial⟩ ?_
              exact ih (s + -8) c (by omega) hV
            | rw [if_neg (fun q => c16 (e.symm.trans q)), List.length_cons] at hV
              refine wp_loc [(0, .int (iI w)), (1, .int (iI (c + 1))), (2, .int (iI (s + -8)))] ⟨rfl, rfl, rfl, trivial⟩ ?_
              exact ih (s + -8) (c + 1) (by omega) (by omega)
  refine wp_iconst dX7_bytesIn_0 ?_
  refine wp_istore_n dX7_bytesIn_1 (by decide) ?_
  refine wp_bipush dX7_bytesIn_2 rfl ?_
  refine wp_istore_n dX7_bytesIn_4 (by decide) ?_
  refine wp_loc [(0, .int (iI w)), (1, .int (iI 0)), (2, .int (iI 24))] ⟨rfl, rfl, rfl, trivial⟩ ?_
  exact L 4 24 0 (by omega) (by omega)

set_option maxRecDepth 20000 in
theorem S_X7_add {X : Cx} {h : Hp} {w : Int} {t : List Int} (hu : t.length + (bsF w 4).length ≤ 160) (tp : TPh h t) : Spec X mX7_add 0 [.ref (adr X 1), .int (iI w)] h (fun rv h' => rv = none ∧ TPh h' (t ++ bsF w 4) ∧ Kp stT h h') := by
  obtain ⟨V, hV0⟩ : ∃ V : List Int, V = t ++ bsF w 4 := ⟨_, rfl⟩
  rw [← hV0]
  refine spec_wp (Nat.le_of_ble_eq_true rfl) (by decide +kernel) ?_
  refine wp_loc [(0, .ref (adr X 1)), (1, .int (iI w))] ⟨rfl, rfl, trivial⟩ ?_
  have L : ∀ (n : Nat) (s : Int) (u : List Int) (h1 : Hp), (s + 8 = 8 * n ∧ n ≤ 4) → (u.length + (bsF w n).length ≤ 160) → (TPh h1 u) → (Kp stT h h1) → (V = u ++ bsF w n) → WP X mX7_add 0 3 [(0, .ref (adr X 1)), (1, .int (iI w)), (2, .int (iI s))] [] h1 (fun rv h' => rv = none ∧ TPh h' (V) ∧ Kp stT h h') := by
    intro n
    induction n with
    | zero =>
      intro s u h1 hn hu tp kp hV
      refine wp_iload_n dX7_add_3 rfl ?_
      refine wp_iflt 64 dX7_add_4 (by decide) (by unfold InR; omega) (fun c4 => ?_) (fun c4 => ?_)
      · exact wp_ret dX7_add_64 rfl (⟨rfl, by rw [hV, bsF, List.append_nil]; exact tp, kp⟩)
      · exact absurd c4 (by omega)
    | succ n ih =>
      intro s u h1 hn hu tp kp hV
      refine wp_iload_n dX7_add_3 rfl ?_
      refine wp_iflt 64 dX7_add_4 (by decide) (by unfold InR; omega) (fun c4 => ?_) (fun c4 => ?_)
      · exact absurd c4 (by omega)
      · refine wp_iload_n dX7_add_7 rfl ?_
        refine wp_iload_n dX7_add_8 rfl ?_
        refine wp_iushr dX7_add_9 ?_
        refine wp_sipush dX7_add_10 rfl ?_
        refine wp_iand dX7_add_13 ?_
        refine wp_istore_n dX7_add_14 (by decide) ?_
        have e : by1 w (8 * (n : Int)) = iAnd (iUsh w s) 255 := by unfold by1; congr 2; omega
        have t1 := tp.1
        rw [bsF] at hu hV
        refine wp_iload_n dX7_add_15 rfl ?_
        refine wp_ifeq 58 dX7_add_16 (by decide) (by have := by1_b w s; unfold InR; show -2147483648 ≤ by1 w s ∧ by1 w s < 2147483648; omega) (fun c16 => ?_) (fun c16 => ?_)
        · refine wp_iinc dX7_add_58 rfl (by decide) ?_
          refine wp_goto 3 dX7_add_61 (by decide) ?_
          first
            | rw [if_pos (e.trans c16)] at hu hV
              refine wp_loc [(0, .ref (adr X 1)), (1, .int (iI w)), (2, .int (iI (s + -8)))] ⟨rfl, rfl, rfl, trivial⟩ ?_
              exact ih (s + -8) u h1 (by omega) hu tp kp hV
            | refine wp_loc [(0, .ref (adr X 1)), (1, .int (iI w)), (2, .int (iI (s + -8)))] ⟨rfl, rfl, rfl, trivial⟩ ?_
              exact ih (s + -8) (u ++ [iAnd (iUsh w s) 255]) _ (by omega) (by rw [List.length_append, List.length_singleton]; omega) tp.app ((kp.tr (Kp.sI (Or.inl rfl))).tr (Kp.sI (Or.inr ⟨rfl, rfl⟩))) (by rw [hV, List.append_assoc, e]; rfl)
        · rw [if_neg (fun q => c16 (e.symm.trans q))] at hu hV
          rw [List.length_cons] at hu
          refine wp_aload_n dX7_add_19 rfl ?_
          refine wp_getI dX7_add_20 flX7_15 rfl rfl ?_
          refine wp_iflt 58 dX7_add_23 (by decide) (by unfold InR; omega) (fun c23 => ?_) (fun c23 => ?_)
          · exact absurd c23 (by omega)
          · refine wp_aload_n dX7_add_26 rfl ?_
            refine wp_getI dX7_add_27 flX7_15 rfl rfl ?_
            refine wp_aload_n dX7_add_30 rfl ?_
            refine wp_getC dX7_add_31 flX7_11 rfl rfl ?_
            refine wp_alen dX7_add_34 (by first | rfl | exact gs1 hG | exact gs2 hG | exact gs3 hG | exact gs4 hG | exact ws1 hW | exact ws2 hW | assumption) (by decide) ?_
            refine wp_icmpge 58 dX7_add_35 (by decide) (by unfold InR; omega) (by unfold InR; omega) (fun c35 => ?_) (fun c35 => ?_)
            · exact absurd c35 (by omega)
            · refine wp_aload_n dX7_add_38 rfl ?_
              refine wp_getC dX7_add_39 flX7_11 rfl rfl ?_
              refine wp_aload_n dX7_add_42 rfl ?_
              refine wp_getI dX7_add_43 flX7_15 rfl rfl ?_
              refine wp_iload_n dX7_add_46 rfl ?_
              rw [t1]
              refine wp_iast (n := 160) dX7_add_47 rfl (by omega) (by omega) ?_
              refine wp_aload_n dX7_add_48 rfl ?_
              refine wp_dup dX7_add_49 rfl ?_
              refine wp_getI dX7_add_50 flX7_15 rfl rfl ?_
              rw [hI_sI, if_neg (by omega), t1]
              refine wp_iconst dX7_add_53 ?_
              refine wp_iadd dX7_add_54 ?_
              refine wp_putI dX7_add_55 plX7_15 rfl rfl ?_
              refine wp_iinc dX7_add_58 rfl (by decide) ?_
              refine wp_goto 3 dX7_add_61 (by decide) ?_
              first
                | rw [if_pos (e.trans c16)] at hu hV
                  refine wp_loc [(0, .ref (adr X 1)), (1, .int (iI w)), (2, .int (iI (s + -8)))] ⟨rfl, rfl, rfl, trivial⟩ ?_
                  exact ih (s + -8) u h1 (by omega) hu tp kp hV
                | refine wp_loc [(0, .ref (adr X 1)), (1, .int (iI w)), (2, .int (iI (s + -8)))] ⟨rfl, rfl, rfl, trivial⟩ ?_
                  exact ih (s + -8) (u ++ [iAnd (iUsh w s) 255]) _ (by omega) (by rw [List.length_append, List.length_singleton]; omega) tp.app ((kp.tr (Kp.sI (Or.inl rfl))).tr (Kp.sI (Or.inr ⟨rfl, rfl⟩))) (by rw [hV, List.append_assoc, e]; rfl)
  refine wp_bipush dX7_add_0 rfl ?_
  refine wp_istore_n dX7_add_2 (by decide) ?_
  refine wp_loc [(0, .ref (adr X 1)), (1, .int (iI w)), (2, .int (iI 24))] ⟨rfl, rfl, rfl, trivial⟩ ?_
  exact L 4 24 t h (by omega) hu tp (Kp.rf h) hV0

