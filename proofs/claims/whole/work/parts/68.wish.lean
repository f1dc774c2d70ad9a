/-! a WISH is reckoned: the stack -/
def psh (v : Int) (st : List Int) : List Int := if st.length < 24 then v :: st else st
def STK (h : Hp) (a : Nat) (st : List Int) : Prop := hI h a 3 = st.length ∧ st.length ≤ 24 ∧ ∀ i : Nat, i < st.length → hI h (a + 2) i = st.getD (st.length - 1 - i) 0
def SK (a c j : Nat) : Prop := (c = a ∧ j = 3) ∨ c = a + 2
theorem STK.ph {h : Hp} {a : Nat} {st : List Int} {v : Int} (s : STK h a st) (hl : st.length < 24) : STK (sI (sI h (a + 2) st.length v) a 3 (st.length + 1)) a (v :: st) := by
  obtain ⟨s1, s2, s3⟩ := s
  refine ⟨by rw [hI_same, List.length_cons]; omega, by rw [List.length_cons]; omega, fun i hi => ?_⟩
  rw [List.length_cons] at hi ⊢
  rw [hI_sI, if_neg (by omega), hI_sI]
  by_cases q : i = st.length
  · rw [if_pos ⟨rfl, q⟩, q, show st.length + 1 - 1 - st.length = 0 by omega]; rfl
  · rw [if_neg (fun w => q w.2), s3 i (by omega), show st.length + 1 - 1 - i = (st.length - 1 - i) + 1 by omega]; rfl
theorem STK.pop {h : Hp} {a : Nat} {st : List Int} {v : Int} (s : STK h a (v :: st)) : STK (sI h a 3 st.length) a st ∧ hI (sI h a 3 st.length) (a + 2) st.length = v := by
  obtain ⟨s1, s2, s3⟩ := s
  rw [List.length_cons] at s2 s3
  refine ⟨⟨hI_same, by omega, fun i hi => ?_⟩, ?_⟩
  · rw [hI_sI, if_neg (by omega), s3 i (by omega), show st.length + 1 - 1 - i = (st.length - 1 - i) + 1 by omega]; rfl
  · rw [hI_sI, if_neg (by omega), s3 _ (by omega), show st.length + 1 - 1 - st.length = 0 by omega]; rfl

set_option maxRecDepth 20000 in
theorem S_X8_push {X : Cx} {h : Hp} {a : Nat} {st : List Int} {v : Int} (hW : isW a) (sk : STK h a st) : Spec X mX8_push 0 [.ref (adr X a), .int (iI v)] h (fun rv h' => rv = none ∧ STK h' a (psh v st) ∧ Kp (SK a) h h') := by
  have s1 := sk.1
  have s2 := sk.2.1
  refine spec_wp (Nat.le_of_ble_eq_true rfl) (by decide +kernel) ?_
  refine wp_loc [(0, .ref (adr X a)), (1, .int (iI v))] ⟨rfl, rfl, trivial⟩ ?_
  refine wp_aload_n dX8_push_0 rfl ?_
  refine wp_getI dX8_push_1 flX8_22 (ws0 hW) rfl ?_
  refine wp_iflt 39 dX8_push_4 (by decide) (by unfold InR; omega) (fun c4 => ?_) (fun c4 => ?_)
  · exact absurd c4 (by omega)
  · refine wp_aload_n dX8_push_7 rfl ?_
    refine wp_getI dX8_push_8 flX8_22 (ws0 hW) rfl ?_
    refine wp_aload_n dX8_push_11 rfl ?_
    refine wp_getC dX8_push_12 flX8_19 (ws0 hW) rfl ?_
    refine wp_alen dX8_push_15 (by first | rfl | exact gs1 hG | exact gs2 hG | exact gs3 hG | exact gs4 hG | exact ws1 hW | exact ws2 hW | assumption) (by decide) ?_
    refine wp_icmpge 39 dX8_push_16 (by decide) (by unfold InR; omega) (by unfold InR; omega) (fun c16 => ?_) (fun c16 => ?_)
    · exact wp_ret dX8_push_39 rfl (⟨rfl, by unfold psh; rw [if_neg (by omega)]; exact sk, Kp.rf h⟩)
    · have hl : st.length < 24 := by omega
      refine wp_aload_n dX8_push_19 rfl ?_
      refine wp_getC dX8_push_20 flX8_19 (ws0 hW) rfl ?_
      refine wp_aload_n dX8_push_23 rfl ?_
      refine wp_getI dX8_push_24 flX8_22 (ws0 hW) rfl ?_
      refine wp_iload_n dX8_push_27 rfl ?_
      rw [s1]
      refine wp_iast (n := 24) dX8_push_28 (ws2 hW) (by omega) (by omega) ?_
      refine wp_aload_n dX8_push_29 rfl ?_
      refine wp_dup dX8_push_30 rfl ?_
      refine wp_getI dX8_push_31 flX8_22 (ws0 hW) rfl ?_
      rw [hI_sI, if_neg (by omega), s1]
      refine wp_iconst dX8_push_34 ?_
      refine wp_iadd dX8_push_35 ?_
      refine wp_putI dX8_push_36 plX8_22 (ws0 hW) rfl ?_
      exact wp_ret dX8_push_39 rfl (⟨rfl, by unfold psh; rw [if_pos hl]; exact sk.ph hl, (Kp.sI (Or.inr rfl)).tr (Kp.sI (Or.inl ⟨rfl, rfl⟩))⟩)

set_option maxRecDepth 20000 in
theorem S_X8_pop {X : Cx} {h : Hp} {a : Nat} {st : List Int} (hW : isW a) (sk : STK h a st) : Spec X mX8_pop 0 [.ref (adr X a)] h (fun rv h' => rv = some (.int (iI (st.headD 0))) ∧ STK h' a st.tail ∧ Kp (SK a) h h') := by
  have s1 := sk.1
  have s2 := sk.2.1
  refine spec_wp (Nat.le_of_ble_eq_true rfl) (by decide +kernel) ?_
  refine wp_loc [(0, .ref (adr X a))] ⟨rfl, trivial⟩ ?_
  refine wp_aload_n dX8_pop_0 rfl ?_
  refine wp_getI dX8_pop_1 flX8_22 (ws0 hW) rfl ?_
  refine wp_ifle 19 dX8_pop_4 (by decide) (by unfold InR; omega) (fun c4 => ?_) (fun c4 => ?_)
  · refine wp_iconst dX8_pop_19 ?_
    exact wp_iret dX8_pop_20 rfl (by
  have q : st = [] := by cases st with
    | nil => rfl
    | cons x r => rw [List.length_cons] at s1; exact absurd c4 (by omega)
  subst q
  exact ⟨rfl, sk, Kp.rf h⟩)
  · refine wp_aload_n dX8_pop_7 rfl ?_
    refine wp_getI dX8_pop_8 flX8_22 (ws0 hW) rfl ?_
    refine wp_aload_n dX8_pop_11 rfl ?_
    refine wp_getC dX8_pop_12 flX8_19 (ws0 hW) rfl ?_
    refine wp_alen dX8_pop_15 (by first | rfl | exact gs1 hG | exact gs2 hG | exact gs3 hG | exact gs4 hG | exact ws1 hW | exact ws2 hW | assumption) (by decide) ?_
    refine wp_icmple 21 dX8_pop_16 (by decide) (by unfold InR; omega) (by unfold InR; omega) (fun c16 => ?_) (fun c16 => ?_)
    · obtain ⟨x, st, rfl⟩ : ∃ x r, st = x :: r := by cases st with
        | nil => exact absurd c4 (by rw [s1]; decide)
        | cons x r => exact ⟨x, r, rfl⟩
      obtain ⟨p1, p2⟩ := sk.pop
      rw [List.length_cons] at s1
      refine wp_aload_n dX8_pop_21 rfl ?_
      refine wp_dup dX8_pop_22 rfl ?_
      refine wp_getI dX8_pop_23 flX8_22 (ws0 hW) rfl ?_
      refine wp_iconst dX8_pop_26 ?_
      rw [s1]
      refine wp_isub dX8_pop_27 ?_
      rw [show ((st.length + 1 : Nat) : Int) - 1 = st.length by omega]
      refine wp_putI dX8_pop_28 plX8_22 (ws0 hW) rfl ?_
      refine wp_aload_n dX8_pop_31 rfl ?_
      refine wp_getC dX8_pop_32 flX8_19 (ws0 hW) rfl ?_
      refine wp_aload_n dX8_pop_35 rfl ?_
      refine wp_getI dX8_pop_36 flX8_22 (ws0 hW) rfl ?_
      rw [hI_same]
      refine wp_iald (n := 24) dX8_pop_39 (ws2 hW) (by omega) (by omega) ?_
      rw [show ((st.length : Int)).toNat = st.length by omega, p2]
      exact wp_iret dX8_pop_40 rfl (⟨rfl, p1, Kp.sI (Or.inl ⟨rfl, rfl⟩)⟩)
    · exact absurd c16 (by omega)

theorem bnd_b (x : Int) : -1000000 ≤ bnd x ∧ bnd x ≤ 1000000 := by unfold bnd; omega
theorem bnd_R (x : Int) : InR (bnd x) := by have := bnd_b x; unfold InR; omega
theorem jn_R (s l r : Int) : InR (jn s l r) := by
  have q1 : InR 1 := ⟨by decide, by decide⟩
  have q0 : InR 0 := ⟨by decide, by decide⟩
  unfold jn
  repeat' split
  all_goals first | exact bnd_R _ | exact q1 | exact q0 | exact inR_of _

theorem lcm_lt {a b : Int} (ha : InL a) (hb : InL b) : lcm (lI a) (lI b) < 0 ↔ a < b := by
  have h1 := lcm_gt ha hb
  have h2 := lcm_eq ha hb
  have h3 := lcm_ge ha hb
  omega

set_option maxRecDepth 20000 in
theorem S_J9_min_f86c9 {X : Cx} {h : Hp} {x y : Int} (hx : InL x) (hy : InL y) : Spec X mJ9_min_f86c9 0 [.long (lI x), .long (lI y)] h (fun rv h' => rv = some (.long (lI (min x y))) ∧ h' = h) := by
  refine spec_wpF (Nat.le_of_ble_eq_true rfl) (by decide +kernel) ?_
  refine wp_loc [(0, .long (lI x)), (2, .long (lI y))] ⟨rfl, rfl, trivial⟩ ?_
  refine wp_lload_n dJ9_min_f86c9_0 rfl ?_
  refine wp_lload_n dJ9_min_f86c9_1 rfl ?_
  refine wp_lcmp dJ9_min_f86c9_2 ?_
  refine wp_ifgt 10 dJ9_min_f86c9_3 (by decide) (lcm_R _ _) (fun c3 => ?_) (fun c3 => ?_)
  · refine wp_lload_n dJ9_min_f86c9_10 rfl ?_
    exact wp_lret dJ9_min_f86c9_11 rfl (⟨by refine congrArg some (congrArg Value.long (congrArg lI ?_)); first | (rw [lcm_gt hx hy] at c3; omega) | (have c3 : ¬ 0 < lcm (lI x) (lI y) := c3; rw [lcm_gt hx hy] at c3; omega), rfl⟩)
  · refine wp_lload_n dJ9_min_f86c9_6 rfl ?_
    refine wp_goto 11 dJ9_min_f86c9_7 (by decide) ?_
    exact wp_lret dJ9_min_f86c9_11 rfl (⟨by refine congrArg some (congrArg Value.long (congrArg lI ?_)); first | (rw [lcm_gt hx hy] at c3; omega) | (have c3 : ¬ 0 < lcm (lI x) (lI y) := c3; rw [lcm_gt hx hy] at c3; omega), rfl⟩)

set_option maxRecDepth 20000 in
theorem S_J9_max_f86c9 {X : Cx} {h : Hp} {x y : Int} (hx : InL x) (hy : InL y) : Spec X mJ9_max_f86c9 0 [.long (lI x), .long (lI y)] h (fun rv h' => rv = some (.long (lI (max x y))) ∧ h' = h) := by
  refine spec_wpF (Nat.le_of_ble_eq_true rfl) (by decide +kernel) ?_
  refine wp_loc [(0, .long (lI x)), (2, .long (lI y))] ⟨rfl, rfl, trivial⟩ ?_
  refine wp_lload_n dJ9_max_f86c9_0 rfl ?_
  refine wp_lload_n dJ9_max_f86c9_1 rfl ?_
  refine wp_lcmp dJ9_max_f86c9_2 ?_
  refine wp_iflt 10 dJ9_max_f86c9_3 (by decide) (lcm_R _ _) (fun c3 => ?_) (fun c3 => ?_)
  · refine wp_lload_n dJ9_max_f86c9_10 rfl ?_
    exact wp_lret dJ9_max_f86c9_11 rfl (⟨by refine congrArg some (congrArg Value.long (congrArg lI ?_)); first | (rw [lcm_lt hx hy] at c3; omega) | (have c3 : ¬ lcm (lI x) (lI y) < 0 := c3; rw [lcm_lt hx hy] at c3; omega), rfl⟩)
  · refine wp_lload_n dJ9_max_f86c9_6 rfl ?_
    refine wp_goto 11 dJ9_max_f86c9_7 (by decide) ?_
    exact wp_lret dJ9_max_f86c9_11 rfl (⟨by refine congrArg some (congrArg Value.long (congrArg lI ?_)); first | (rw [lcm_lt hx hy] at c3; omega) | (have c3 : ¬ lcm (lI x) (lI y) < 0 := c3; rw [lcm_lt hx hy] at c3; omega), rfl⟩)

set_option maxRecDepth 20000 in
theorem S_X8_bounded {X : Cx} {h : Hp} {x : Int} (hx : InL x) : Spec X mX8_bounded 1 [.long (lI x)] h (fun rv h' => rv = some (.int (iI (bnd x))) ∧ h' = h) := by
  have hb := bnd_R x
  have k1 : ((1000000 : Int64)) = lI 1000000 := rfl
  have k2 : ((-1000000 : Int64)) = lI (-1000000) := rfl
  unfold InL at hx
  refine spec_wp (Nat.le_of_ble_eq_true rfl) (by decide +kernel) ?_
  refine wp_loc [(0, .long (lI x))] ⟨rfl, trivial⟩ ?_
  refine wp_ldc2 (v := -1000000) dX8_bounded_0 klX8_60 ?_
  refine wp_ldc2 (v := 1000000) dX8_bounded_3 klX8_62 ?_
  refine wp_lload_n dX8_bounded_6 rfl ?_
  refine wp_callSp dX8_bounded_7 mlX8_64 msJ9_min_f86c9 (S_J9_min_f86c9 (x := 1000000) (y := x) (by unfold InL; omega) hx) rfl rfl (by decide) (by decide) (Nat.le_of_ble_eq_true rfl) ?_
  refine wp_callSp dX8_bounded_10 mlX8_67 msJ9_max_f86c9 (S_J9_max_f86c9 (x := -1000000) (y := min 1000000 x) (by unfold InL; omega) (by unfold InL; omega)) rfl rfl (by decide) (by decide) (Nat.le_of_ble_eq_true rfl) ?_
  refine wp_l2i dX8_bounded_13 ?_
  exact wp_iret dX8_bounded_14 rfl (⟨by refine congrArg some (congrArg Value.int ?_); rw [l2i_I, iI_of]; rfl, rfl⟩)

theorem mul_L {l r : Int} (hl : InR l) (hr : InR r) : InL (l * r) := by
  unfold InR at hl hr
  have h1 : -(2147483648 * 2147483648) ≤ l * r ∧ l * r ≤ 2147483648 * 2147483648 := by
    rcases Int.le_total 0 r with q | q
    · exact mul_b (s := l) (z := r) (by omega) (by omega) (by decide)
    · have h2 := mul_b (s := l) (z := -r) (A := 2147483648) (B := 2147483648) (by omega) (by omega) (by decide)
      rw [Int.mul_neg] at h2
      omega
  unfold InL
  omega
theorem tdiv_L {l r : Int} (hl : InR l) (hr : InR r) (h0 : r ≠ 0) : InL (l.tdiv r) := by
  unfold InR at hl
  have h1 : (l.tdiv r).natAbs ≤ l.natAbs := by rw [Int.natAbs_tdiv]; exact Nat.div_le_self _ _
  unfold InL
  omega

set_option maxRecDepth 20000 in
theorem S_X8_joined {X : Cx} {h : Hp} {s l r : Int} (hs : InR s) (hl : InR l) (hr : InR r) : Spec X mX8_joined 2 [.int (iI s), .int (iI l), .int (iI r)] h (fun rv h' => rv = some (.int (iI (jn s l r))) ∧ h' = h) := by
  have hl2 := hl
  have hr2 := hr
  unfold InR at hl2 hr2
  refine spec_wp (Nat.le_of_ble_eq_true rfl) (by decide +kernel) ?_
  refine wp_loc [(0, .int (iI s)), (1, .int (iI l)), (2, .int (iI r))] ⟨rfl, rfl, rfl, trivial⟩ ?_
  refine wp_iload_n dX8_joined_0 rfl ?_
  have K197 : jn s l r = iOr l r → WP X mX8_joined 2 197 [(0, .int (iI s)), (1, .int (iI l)), (2, .int (iI r))] [] h (fun rv h' => rv = some (.int (iI (jn s l r))) ∧ h' = h) := by
    intro hj
    refine wp_iload_n dX8_joined_197 rfl ?_
    refine wp_iload_n dX8_joined_198 rfl ?_
    refine wp_ior dX8_joined_199 ?_
    exact wp_iret dX8_joined_200 rfl (⟨vi hj.symm, rfl⟩)
  rcases (show (s < 38 ∨ 62 < s) ∨ s = 38 ∨ s = 39 ∨ s = 40 ∨ s = 41 ∨ s = 42 ∨ s = 43 ∨ s = 44 ∨ s = 45 ∨ s = 46 ∨ s = 47 ∨ s = 48 ∨ s = 49 ∨ s = 50 ∨ s = 51 ∨ s = 52 ∨ s = 53 ∨ s = 54 ∨ s = 55 ∨ s = 56 ∨ s = 57 ∨ s = 58 ∨ s = 59 ∨ s = 60 ∨ s = 61 ∨ s = 62 by omega) with hx | rfl | rfl | rfl | rfl | rfl | rfl | rfl | rfl | rfl | rfl | rfl | rfl | rfl | rfl | rfl | rfl | rfl | rfl | rfl | rfl | rfl | rfl | rfl | rfl | rfl
  · refine wp_tso 197 dX8_joined_1 hs hx (by decide) ?_
    exact K197 (by unfold jn; rw [if_neg (by omega), if_neg (by omega), if_neg (by omega), if_neg (by omega), if_neg (by omega), if_neg (by omega), if_neg (by omega), if_neg (by omega)])
  · refine wp_tsi 193 dX8_joined_1 hs (by decide) (by decide) rfl (by decide) ?_
    refine wp_iload_n dX8_joined_193 rfl ?_
    refine wp_iload_n dX8_joined_194 rfl ?_
    refine wp_iand dX8_joined_195 ?_
    exact wp_iret dX8_joined_196 rfl (⟨rfl, rfl⟩)
  · refine wp_tsi 197 dX8_joined_1 hs (by decide) (by decide) rfl (by decide) ?_
    exact K197 rfl
  · refine wp_tsi 197 dX8_joined_1 hs (by decide) (by decide) rfl (by decide) ?_
    exact K197 rfl
  · refine wp_tsi 197 dX8_joined_1 hs (by decide) (by decide) rfl (by decide) ?_
    exact K197 rfl
  · refine wp_tsi 134 dX8_joined_1 hs (by decide) (by decide) rfl (by decide) ?_
    refine wp_iload_n dX8_joined_134 rfl ?_
    refine wp_i2l dX8_joined_135 ?_
    refine wp_iload_n dX8_joined_136 rfl ?_
    refine wp_i2l dX8_joined_137 ?_
    refine wp_lmul dX8_joined_138 ?_
    rw [i2l_I hl, i2l_I hr, lI_mul]
    refine wp_callSp dX8_joined_139 mlX8_56 msX8_bounded (S_X8_bounded (mul_L hl hr)) rfl rfl (by decide) (by decide) (Nat.le_of_ble_eq_true rfl) ?_
    exact wp_iret dX8_joined_142 rfl (⟨rfl, rfl⟩)
  · refine wp_tsi 116 dX8_joined_1 hs (by decide) (by decide) rfl (by decide) ?_
    refine wp_iload_n dX8_joined_116 rfl ?_
    refine wp_i2l dX8_joined_117 ?_
    refine wp_iload_n dX8_joined_118 rfl ?_
    refine wp_i2l dX8_joined_119 ?_
    refine wp_ladd dX8_joined_120 ?_
    rw [i2l_I hl, i2l_I hr, lI_add]
    refine wp_callSp dX8_joined_121 mlX8_56 msX8_bounded (S_X8_bounded (by unfold InL; omega)) rfl rfl (by decide) (by decide) (Nat.le_of_ble_eq_true rfl) ?_
    exact wp_iret dX8_joined_124 rfl (⟨rfl, rfl⟩)
  · refine wp_tsi 197 dX8_joined_1 hs (by decide) (by decide) rfl (by decide) ?_
    exact K197 rfl
  · refine wp_tsi 125 dX8_joined_1 hs (by decide) (by decide) rfl (by decide) ?_
    refine wp_iload_n dX8_joined_125 rfl ?_
    refine wp_i2l dX8_joined_126 ?_
    refine wp_iload_n dX8_joined_127 rfl ?_
    refine wp_i2l dX8_joined_128 ?_
    refine wp_lsub dX8_joined_129 ?_
    rw [i2l_I hl, i2l_I hr, lI_sub]
    refine wp_callSp dX8_joined_130 mlX8_56 msX8_bounded (S_X8_bounded (by unfold InL; omega)) rfl rfl (by decide) (by decide) (Nat.le_of_ble_eq_true rfl) ?_
    exact wp_iret dX8_joined_133 rfl (⟨rfl, rfl⟩)
  · refine wp_tsi 197 dX8_joined_1 hs (by decide) (by decide) rfl (by decide) ?_
    exact K197 rfl
  · refine wp_tsi 143 dX8_joined_1 hs (by decide) (by decide) rfl (by decide) ?_
    refine wp_iload_n dX8_joined_143 rfl ?_
    refine wp_ifne 151 dX8_joined_144 (by decide) (by assumption) (fun c144 => ?_) (fun c144 => ?_)
    · refine wp_iload_n dX8_joined_151 rfl ?_
      refine wp_i2l dX8_joined_152 ?_
      refine wp_iload_n dX8_joined_153 rfl ?_
      refine wp_i2l dX8_joined_154 ?_
      refine wp_ldiv dX8_joined_155 (by rw [i2l_I hr]; intro q; exact c144 ((lI_eq (b := 0) (by unfold InL; omega) (by unfold InL; omega)).mp q)) ?_
      rw [i2l_I hl, i2l_I hr, lI_div (by unfold InL; omega) (by unfold InL; omega) (tdiv_L hl hr c144)]
      refine wp_callSp dX8_joined_156 mlX8_56 msX8_bounded (S_X8_bounded (tdiv_L hl hr c144)) rfl rfl (by decide) (by decide) (Nat.le_of_ble_eq_true rfl) ?_
      exact wp_iret dX8_joined_159 rfl (⟨vi (by show _ = if r = 0 then 0 else bnd (l.tdiv r); rw [if_neg c144]), rfl⟩)
    · refine wp_iconst dX8_joined_147 ?_
      refine wp_goto 159 dX8_joined_148 (by decide) ?_
      exact wp_iret dX8_joined_159 rfl (⟨vi (by show _ = if r = 0 then 0 else bnd (l.tdiv r); rw [if_pos c144]), rfl⟩)
  · refine wp_tsi 197 dX8_joined_1 hs (by decide) (by decide) rfl (by decide) ?_
    exact K197 rfl
  · refine wp_tsi 197 dX8_joined_1 hs (by decide) (by decide) rfl (by decide) ?_
    exact K197 rfl
  · refine wp_tsi 197 dX8_joined_1 hs (by decide) (by decide) rfl (by decide) ?_
    exact K197 rfl
  · refine wp_tsi 197 dX8_joined_1 hs (by decide) (by decide) rfl (by decide) ?_
    exact K197 rfl
  · refine wp_tsi 197 dX8_joined_1 hs (by decide) (by decide) rfl (by decide) ?_
    exact K197 rfl
  · refine wp_tsi 197 dX8_joined_1 hs (by decide) (by decide) rfl (by decide) ?_
    exact K197 rfl
  · refine wp_tsi 197 dX8_joined_1 hs (by decide) (by decide) rfl (by decide) ?_
    exact K197 rfl
  · refine wp_tsi 197 dX8_joined_1 hs (by decide) (by decide) rfl (by decide) ?_
    exact K197 rfl
  · refine wp_tsi 197 dX8_joined_1 hs (by decide) (by decide) rfl (by decide) ?_
    exact K197 rfl
  · refine wp_tsi 197 dX8_joined_1 hs (by decide) (by decide) rfl (by decide) ?_
    exact K197 rfl
  · refine wp_tsi 197 dX8_joined_1 hs (by decide) (by decide) rfl (by decide) ?_
    exact K197 rfl
  · refine wp_tsi 197 dX8_joined_1 hs (by decide) (by decide) rfl (by decide) ?_
    exact K197 rfl
  · refine wp_tsi 171 dX8_joined_1 hs (by decide) (by decide) rfl (by decide) ?_
    refine wp_iload_n dX8_joined_171 rfl ?_
    refine wp_iload_n dX8_joined_172 rfl ?_
    refine wp_icmpge 180 dX8_joined_173 (by decide) (by assumption) (by assumption) (fun c173 => ?_) (fun c173 => ?_)
    · refine wp_iconst dX8_joined_180 ?_
      exact wp_iret dX8_joined_181 rfl (⟨vi (by show _ = if l < r then (1 : Int) else 0; rw [if_neg (by omega)]), rfl⟩)
    · refine wp_iconst dX8_joined_176 ?_
      refine wp_goto 181 dX8_joined_177 (by decide) ?_
      exact wp_iret dX8_joined_181 rfl (⟨vi (by show _ = if l < r then (1 : Int) else 0; rw [if_pos (by omega)]), rfl⟩)
  · refine wp_tsi 160 dX8_joined_1 hs (by decide) (by decide) rfl (by decide) ?_
    refine wp_iload_n dX8_joined_160 rfl ?_
    refine wp_iload_n dX8_joined_161 rfl ?_
    refine wp_icmpne 169 dX8_joined_162 (by decide) (by assumption) (by assumption) (fun c162 => ?_) (fun c162 => ?_)
    · refine wp_iconst dX8_joined_169 ?_
      exact wp_iret dX8_joined_170 rfl (⟨vi (by show _ = if l = r then (1 : Int) else 0; rw [if_neg c162]), rfl⟩)
    · refine wp_iconst dX8_joined_165 ?_
      refine wp_goto 170 dX8_joined_166 (by decide) ?_
      exact wp_iret dX8_joined_170 rfl (⟨vi (by show _ = if l = r then (1 : Int) else 0; rw [if_pos c162]), rfl⟩)
  · refine wp_tsi 182 dX8_joined_1 hs (by decide) (by decide) rfl (by decide) ?_
    refine wp_iload_n dX8_joined_182 rfl ?_
    refine wp_iload_n dX8_joined_183 rfl ?_
    refine wp_icmple 191 dX8_joined_184 (by decide) (by assumption) (by assumption) (fun c184 => ?_) (fun c184 => ?_)
    · refine wp_iconst dX8_joined_191 ?_
      exact wp_iret dX8_joined_192 rfl (⟨vi (by show _ = if r < l then (1 : Int) else 0; rw [if_neg (by omega)]), rfl⟩)
    · refine wp_iconst dX8_joined_187 ?_
      refine wp_goto 192 dX8_joined_188 (by decide) ?_
      exact wp_iret dX8_joined_192 rfl (⟨vi (by show _ = if r < l then (1 : Int) else 0; rw [if_pos (by omega)]), rfl⟩)

def rck (ρ : Int → Int) (s : Int) (st : List Int) : List Int :=
  if s = 103 ∨ s = 112 ∨ s = 116 ∨ s = 115 ∨ s = 110 then psh (ρ s) st else if s = 33 then psh (if st.headD 0 = 0 then 1 else 0) st.tail else psh (jn s (st.tail.headD 0) (st.headD 0)) st.tail.tail
def ltr (g p t s n : Int) : Int → Int := fun x => if x = 103 then g else if x = 112 then p else if x = 116 then t else if x = 115 then s else n
def AllR (st : List Int) : Prop := ∀ x ∈ st, InR x
theorem AllR.hd {st : List Int} (a : AllR st) : InR (st.headD 0) := by cases st with
  | nil => exact inR_0
  | cons x r => exact a x List.mem_cons_self
theorem AllR.tl {st : List Int} (a : AllR st) : AllR st.tail := fun x hx => a x (List.mem_of_mem_tail hx)
theorem AllR.ps {st : List Int} (a : AllR st) {v : Int} (hv : InR v) : AllR (psh v st) := by
  unfold psh
  split
  · intro x hx
    rcases List.mem_cons.mp hx with rfl | hx
    · exact hv
    · exact a x hx
  · exact a
theorem AllR.rk {st : List Int} (a : AllR st) {ρ : Int → Int} (hρ : ∀ x, InR (ρ x)) (s : Int) : AllR (rck ρ s st) := by
  have q1 : InR 1 := ⟨by decide, by decide⟩
  unfold rck
  split
  · exact a.ps (hρ _)
  · split
    · exact a.tl.ps (by split <;> first | exact q1 | exact inR_0)
    · exact a.tl.tl.ps (jn_R _ _ _)

set_option maxRecDepth 20000 in
theorem S_X8_reckon {X : Cx} {h : Hp} {a : Nat} {st : List Int} {sg g p t s n : Int} (hW : isW a) (sk : STK h a st) (hs : InR sg) (ar : AllR st) : Spec X mX8_reckon 3 [.ref (adr X a), .int (iI sg), .int (iI g), .int (iI p), .int (iI t), .int (iI s), .int (iI n)] h (fun rv h' => rv = none ∧ STK h' a (rck (ltr g p t s n) sg st) ∧ Kp (SK a) h h') := by
  refine spec_wp (Nat.le_of_ble_eq_true rfl) (by decide +kernel) ?_
  refine wp_loc [(0, .ref (adr X a)), (1, .int (iI sg)), (2, .int (iI g)), (3, .int (iI p)), (4, .int (iI t)), (5, .int (iI s)), (6, .int (iI n))] ⟨rfl, rfl, rfl, rfl, rfl, rfl, rfl, trivial⟩ ?_
  refine wp_iload_n dX8_reckon_0 rfl ?_
  rcases (show sg = 33 ∨ sg = 103 ∨ sg = 110 ∨ sg = 112 ∨ sg = 115 ∨ sg = 116 ∨ (sg ≠ 33 ∧ sg ≠ 103 ∧ sg ≠ 110 ∧ sg ≠ 112 ∧ sg ≠ 115 ∧ sg ≠ 116) by omega) with rfl | rfl | rfl | rfl | rfl | rfl | hx
  · refine wp_lsw hs dX8_reckon_1 (by decide) 103 (off := 102) rfl (by decide) ?_
    refine wp_aload_n dX8_reckon_103 rfl ?_
    refine wp_aload_n dX8_reckon_104 rfl ?_
    refine wp_callV dX8_reckon_105 mlX8_40 mvX8_pop (S_X8_pop hW sk) rfl rfl (by decide) (by decide) (ws0 hW) rfl rfl (Nat.le_of_ble_eq_true rfl) ?_
    rintro rv h1 ⟨rfl, sk1, kp1⟩
    refine wp_ifne 115 dX8_reckon_108 (by decide) ar.hd (fun c108 => ?_) (fun c108 => ?_)
    · refine wp_iconst dX8_reckon_115 ?_
      refine wp_callV dX8_reckon_116 mlX8_44 mvX8_push (S_X8_push hW sk1) rfl rfl (by decide) (by decide) (ws0 hW) rfl rfl (Nat.le_of_ble_eq_true rfl) ?_
      rintro rv h2 ⟨rfl, sk2, kp2⟩
      refine wp_goto 146 dX8_reckon_119 (by decide) ?_
      exact wp_ret dX8_reckon_146 rfl (⟨rfl, by show STK h2 a (psh (if st.headD 0 = 0 then 1 else 0) st.tail); rw [if_neg c108]; exact sk2, kp1.tr kp2⟩)
    · refine wp_iconst dX8_reckon_111 ?_
      refine wp_goto 116 dX8_reckon_112 (by decide) ?_
      refine wp_callV dX8_reckon_116 mlX8_44 mvX8_push (S_X8_push hW sk1) rfl rfl (by decide) (by decide) (ws0 hW) rfl rfl (Nat.le_of_ble_eq_true rfl) ?_
      rintro rv h2 ⟨rfl, sk2, kp2⟩
      refine wp_goto 146 dX8_reckon_119 (by decide) ?_
      exact wp_ret dX8_reckon_146 rfl (⟨rfl, by show STK h2 a (psh (if st.headD 0 = 0 then 1 else 0) st.tail); rw [if_pos c108]; exact sk2, kp1.tr kp2⟩)
  · refine wp_lsw hs dX8_reckon_1 (by decide) 60 (off := 59) rfl (by decide) ?_
    refine wp_aload_n dX8_reckon_60 rfl ?_
    refine wp_iload_n dX8_reckon_61 rfl ?_
    refine wp_callV dX8_reckon_62 mlX8_44 mvX8_push (S_X8_push hW sk) rfl rfl (by decide) (by decide) (ws0 hW) rfl rfl (Nat.le_of_ble_eq_true rfl) ?_
    rintro rv h1 ⟨rfl, sk1, kp1⟩
    refine wp_goto 146 dX8_reckon_65 (by decide) ?_
    exact wp_ret dX8_reckon_146 rfl (⟨rfl, sk1, kp1⟩)
  · refine wp_lsw hs dX8_reckon_1 (by decide) 94 (off := 93) rfl (by decide) ?_
    refine wp_aload_n dX8_reckon_94 rfl ?_
    refine wp_iload dX8_reckon_95 rfl ?_
    refine wp_callV dX8_reckon_97 mlX8_44 mvX8_push (S_X8_push hW sk) rfl rfl (by decide) (by decide) (ws0 hW) rfl rfl (Nat.le_of_ble_eq_true rfl) ?_
    rintro rv h1 ⟨rfl, sk1, kp1⟩
    refine wp_goto 146 dX8_reckon_100 (by decide) ?_
    exact wp_ret dX8_reckon_146 rfl (⟨rfl, sk1, kp1⟩)
  · refine wp_lsw hs dX8_reckon_1 (by decide) 68 (off := 67) rfl (by decide) ?_
    refine wp_aload_n dX8_reckon_68 rfl ?_
    refine wp_iload_n dX8_reckon_69 rfl ?_
    refine wp_callV dX8_reckon_70 mlX8_44 mvX8_push (S_X8_push hW sk) rfl rfl (by decide) (by decide) (ws0 hW) rfl rfl (Nat.le_of_ble_eq_true rfl) ?_
    rintro rv h1 ⟨rfl, sk1, kp1⟩
    refine wp_goto 146 dX8_reckon_73 (by decide) ?_
    exact wp_ret dX8_reckon_146 rfl (⟨rfl, sk1, kp1⟩)
  · refine wp_lsw hs dX8_reckon_1 (by decide) 85 (off := 84) rfl (by decide) ?_
    refine wp_aload_n dX8_reckon_85 rfl ?_
    refine wp_iload dX8_reckon_86 rfl ?_
    refine wp_callV dX8_reckon_88 mlX8_44 mvX8_push (S_X8_push hW sk) rfl rfl (by decide) (by decide) (ws0 hW) rfl rfl (Nat.le_of_ble_eq_true rfl) ?_
    rintro rv h1 ⟨rfl, sk1, kp1⟩
    refine wp_goto 146 dX8_reckon_91 (by decide) ?_
    exact wp_ret dX8_reckon_146 rfl (⟨rfl, sk1, kp1⟩)
  · refine wp_lsw hs dX8_reckon_1 (by decide) 76 (off := 75) rfl (by decide) ?_
    refine wp_aload_n dX8_reckon_76 rfl ?_
    refine wp_iload dX8_reckon_77 rfl ?_
    refine wp_callV dX8_reckon_79 mlX8_44 mvX8_push (S_X8_push hW sk) rfl rfl (by decide) (by decide) (ws0 hW) rfl rfl (Nat.le_of_ble_eq_true rfl) ?_
    rintro rv h1 ⟨rfl, sk1, kp1⟩
    refine wp_goto 146 dX8_reckon_82 (by decide) ?_
    exact wp_ret dX8_reckon_146 rfl (⟨rfl, sk1, kp1⟩)
  · refine wp_lsw hs dX8_reckon_1 (by decide) 122 (off := 121) (by show Op.lookupswitch.offset [(33, 102), (103, 59), (110, 93), (112, 67), (115, 84), (116, 75)] 121 sg = 121; rw [Op.lookupswitch.offset_cons, if_neg (by omega), Op.lookupswitch.offset_cons, if_neg (by omega), Op.lookupswitch.offset_cons, if_neg (by omega), Op.lookupswitch.offset_cons, if_neg (by omega), Op.lookupswitch.offset_cons, if_neg (by omega), Op.lookupswitch.offset_cons, if_neg (by omega), Op.lookupswitch.offset_nil]) (by decide) ?_
    refine wp_aload_n dX8_reckon_122 rfl ?_
    refine wp_callV dX8_reckon_123 mlX8_40 mvX8_pop (S_X8_pop hW sk) rfl rfl (by decide) (by decide) (ws0 hW) rfl rfl (Nat.le_of_ble_eq_true rfl) ?_
    rintro rv h1 ⟨rfl, sk1, kp1⟩
    refine wp_istore dX8_reckon_126 (by decide) ?_
    refine wp_aload_n dX8_reckon_128 rfl ?_
    refine wp_callV dX8_reckon_129 mlX8_40 mvX8_pop (S_X8_pop hW sk1) rfl rfl (by decide) (by decide) (ws0 hW) rfl rfl (Nat.le_of_ble_eq_true rfl) ?_
    rintro rv h2 ⟨rfl, sk2, kp2⟩
    refine wp_istore dX8_reckon_132 (by decide) ?_
    refine wp_aload_n dX8_reckon_134 rfl ?_
    refine wp_iload_n dX8_reckon_135 rfl ?_
    refine wp_iload dX8_reckon_136 rfl ?_
    refine wp_iload dX8_reckon_138 rfl ?_
    refine wp_callSp dX8_reckon_140 mlX8_52 msX8_joined (S_X8_joined hs ar.tl.hd ar.hd) rfl rfl (by decide) (by decide) (Nat.le_of_ble_eq_true rfl) ?_
    refine wp_callV dX8_reckon_143 mlX8_44 mvX8_push (S_X8_push hW sk2) rfl rfl (by decide) (by decide) (ws0 hW) rfl rfl (Nat.le_of_ble_eq_true rfl) ?_
    rintro rv h3 ⟨rfl, sk3, kp3⟩
    exact wp_ret dX8_reckon_146 rfl (⟨rfl, by unfold rck; rw [if_neg (by omega), if_neg (by omega)]; exact sk3, (kp1.tr kp2).tr kp3⟩)

