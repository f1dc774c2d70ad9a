/-! whole numbers as the machine's longs -/
def lI (z : Int) : Int64 := Int64.ofInt z
def InL (z : Int) : Prop := -9223372036854775808 ≤ z ∧ z < 9223372036854775808
theorem lI_toInt {z : Int} (h : InL z) : (lI z).toInt = z := Int64.toInt_ofInt_of_le h.1 h.2
theorem lI_add (a b : Int) : lI a + lI b = lI (a + b) := (Int64.ofInt_add a b).symm
theorem lI_sub (a b : Int) : lI a - lI b = lI (a - b) := (Int64.ofInt_sub a b).symm
theorem lI_mul (a b : Int) : lI a * lI b = lI (a * b) := (Int64.ofInt_mul a b).symm
theorem lI_lt {a b : Int} (ha : InL a) (hb : InL b) : lI a < lI b ↔ a < b := by rw [Int64.lt_iff_toInt_lt, lI_toInt ha, lI_toInt hb]
theorem lI_le {a b : Int} (ha : InL a) (hb : InL b) : lI a ≤ lI b ↔ a ≤ b := by rw [Int64.le_iff_toInt_le, lI_toInt ha, lI_toInt hb]
theorem lI_eq {a b : Int} (ha : InL a) (hb : InL b) : lI a = lI b ↔ a = b := ⟨fun h => by have := congrArg Int64.toInt h; rwa [lI_toInt ha, lI_toInt hb] at this, fun h => by rw [h]⟩
theorem i2l_I {z : Int} (h : InR z) : (iI z).toInt64 = lI z := by
  unfold InR at h
  apply Int64.toInt_inj.mp
  rw [Int32.toInt_toInt64, iI_toInt h, lI_toInt ⟨by omega, by omega⟩]
theorem l2i_I (z : Int) : (lI z).toInt32 = iI z := by
  unfold lI iI
  apply Int32.toInt_inj.mp
  simp [Int64.toInt_toInt32, Int64.toInt_ofInt, Int32.toInt_ofInt]
theorem l2i_T {z : Int} (h : InR z) : (lI z).toInt32.toInt = z := by rw [l2i_I, iI_toInt h]
theorem lI_div {a b : Int} (ha : InL a) (hb : InL b) (h : InL (a.tdiv b)) : lI a / lI b = lI (a.tdiv b) := by
  apply Int64.toInt_inj.mp
  rw [Int64.toInt_div, lI_toInt ha, lI_toInt hb, lI_toInt h]
  exact Int.bmod_eq_of_le (by have := h.1; omega) (by have := h.2; omega)
theorem lI_rem {a b : Int} (ha : InL a) (hb : InL b) (h : InL (a.tdiv b)) : lI a - lI a / lI b * lI b = lI (a.tmod b) := by
  rw [lI_div ha hb h, lI_mul, lI_sub, Int.tmod_def, Int.mul_comm]
theorem lcm_v (x y : Int64) : lcm x y = if y < x then 1 else if x = y then 0 else -1 := by
  unfold lcm lg_cmp
  split
  · rfl
  · split
    · rfl
    · rfl
theorem lcm_R (x y : Int64) : InR (lcm x y) := by
  rw [lcm_v]
  unfold InR
  split
  · omega
  · split <;> omega
theorem lcm_ge {a b : Int} (ha : InL a) (hb : InL b) : 0 ≤ lcm (lI a) (lI b) ↔ b ≤ a := by
  rw [lcm_v]
  by_cases h1 : b < a
  · rw [if_pos ((lI_lt hb ha).mpr h1)]; omega
  · rw [if_neg (fun q => h1 ((lI_lt hb ha).mp q))]
    by_cases h2 : a = b
    · rw [if_pos (by rw [h2])]; omega
    · rw [if_neg (fun q => h2 ((lI_eq ha hb).mp q))]; omega
theorem lcm_gt {a b : Int} (ha : InL a) (hb : InL b) : 0 < lcm (lI a) (lI b) ↔ b < a := by
  rw [lcm_v]
  by_cases h1 : b < a
  · rw [if_pos ((lI_lt hb ha).mpr h1)]; omega
  · rw [if_neg (fun q => h1 ((lI_lt hb ha).mp q))]
    by_cases h2 : a = b
    · rw [if_pos (by rw [h2])]; omega
    · rw [if_neg (fun q => h2 ((lI_eq ha hb).mp q))]; omega
theorem lcm_eq {a b : Int} (ha : InL a) (hb : InL b) : lcm (lI a) (lI b) = 0 ↔ a = b := by
  rw [lcm_v]
  by_cases h1 : b < a
  · rw [if_pos ((lI_lt hb ha).mpr h1)]; omega
  · rw [if_neg (fun q => h1 ((lI_lt hb ha).mp q))]
    by_cases h2 : a = b
    · rw [if_pos (by rw [h2])]; omega
    · rw [if_neg (fun q => h2 ((lI_eq ha hb).mp q))]; omega
theorem mul_b {s z A B : Int} (hs : -A ≤ s ∧ s ≤ A) (hz : 0 ≤ z ∧ z ≤ B) (hA : 0 ≤ A) : -(A * B) ≤ s * z ∧ s * z ≤ A * B := by
  have h1 : s * z ≤ A * z := Int.mul_le_mul_of_nonneg_right hs.2 hz.1
  have h2 : -A * z ≤ s * z := Int.mul_le_mul_of_nonneg_right hs.1 hz.1
  have h3 : A * z ≤ A * B := Int.mul_le_mul_of_nonneg_left hz.2 hA
  rw [Int.neg_mul] at h2
  omega
/-! draws -/
def nxX (x : Int64) : Int64 := x * 6364136223846793005 + 1442695040888963407
def xk (x : Int64) : Nat → Int64
  | 0 => x
  | k + 1 => nxX (xk x k)
def drw (x : Int64) (m : Int) : Int := ((x.toBitVec.toNat / 8589934592 : Nat) : Int) % m
theorem drw_b (x : Int64) {m : Int} (h : 0 < m) : 0 ≤ drw x m ∧ drw x m < m := ⟨Int.emod_nonneg _ (by omega), Int.emod_lt_of_pos _ h⟩
theorem lsh_v (x : Int64) : (x.toUInt64 >>> ((iI 33).toInt64.toUInt64 &&& Int64.toUInt64 63)).toInt64 = lI ((x.toBitVec.toNat / 8589934592 : Nat) : Int) := by
  have hx := x.toBitVec.isLt
  apply Int64.toBitVec_inj.mp
  apply BitVec.eq_of_toNat_eq
  show (x.toUInt64 >>> ((iI 33).toInt64.toUInt64 &&& Int64.toUInt64 63)).toBitVec.toNat = (BitVec.ofInt 64 _).toNat
  rw [UInt64.toBitVec_shiftRight, show ((iI 33).toInt64.toUInt64 &&& Int64.toUInt64 63).toBitVec % 64 = 33#64 from by decide, BitVec.ushiftRight_eq', BitVec.toNat_ushiftRight, BitVec.toNat_ofInt]
  show x.toBitVec.toNat >>> 33 = _
  rw [Nat.shiftRight_eq_div_pow]
  omega
theorem drw_v (x : Int64) {m : Int} (h : 0 < m ∧ m ≤ 1000) : iI ((x.toUInt64 >>> ((iI 33).toInt64.toUInt64 &&& Int64.toUInt64 63)).toInt64 - (x.toUInt64 >>> ((iI 33).toInt64.toUInt64 &&& Int64.toUInt64 63)).toInt64 / (iI m).toInt64 * (iI m).toInt64).toInt32.toInt = iI (drw x m) := by
  have hx := x.toBitVec.isLt
  unfold drw
  rw [lsh_v, i2l_I ⟨by omega, by omega⟩]
  have h0 : (0 : Int) ≤ ((x.toBitVec.toNat / 8589934592 : Nat) : Int) := by omega
  have h2 : ((x.toBitVec.toNat / 8589934592 : Nat) : Int) < 2147483648 := by omega
  generalize ((x.toBitVec.toNat / 8589934592 : Nat) : Int) = k at h0 h2
  have hd : InL (k.tdiv m) := by
    rw [Int.tdiv_eq_ediv_of_nonneg h0]
    have q1 : 0 ≤ k / m := Int.ediv_nonneg h0 (by omega)
    have q2 : k / m ≤ k := Int.ediv_le_self m h0
    exact ⟨by omega, by omega⟩
  rw [lI_rem ⟨by omega, by omega⟩ ⟨by omega, by omega⟩ hd, Int.tmod_eq_emod_of_nonneg h0, l2i_I, iI_of]
