/-! whole numbers as the machine's ints -/
def iI (z : Int) : Int32 := Int32.ofInt z
def InR (z : Int) : Prop := -2147483648 ≤ z ∧ z < 2147483648
theorem iI_of (x : Int32) : iI x.toInt = x := Int32.ofInt_toInt x
theorem iI_add (a b : Int) : iI a + iI b = iI (a + b) := (Int32.ofInt_add a b).symm
theorem iI_sub (a b : Int) : iI a - iI b = iI (a - b) := (Int32.ofInt_sub a b).symm
theorem iI_mul (a b : Int) : iI a * iI b = iI (a * b) := (Int32.ofInt_mul a b).symm
theorem iI_neg (a : Int) : - iI a = iI (-a) := (Int32.ofInt_neg a).symm
theorem iI_toInt {z : Int} (h : InR z) : (iI z).toInt = z := Int32.toInt_ofInt_of_le h.1 h.2
theorem inR_of (x : Int32) : InR x.toInt := ⟨Int32.le_toInt x, Int32.toInt_lt x⟩
theorem iI_lt {a b : Int} (ha : InR a) (hb : InR b) : iI a < iI b ↔ a < b := by rw [Int32.lt_iff_toInt_lt, iI_toInt ha, iI_toInt hb]
theorem iI_le {a b : Int} (ha : InR a) (hb : InR b) : iI a ≤ iI b ↔ a ≤ b := by rw [Int32.le_iff_toInt_le, iI_toInt ha, iI_toInt hb]
theorem iI_eq {a b : Int} (ha : InR a) (hb : InR b) : iI a = iI b ↔ a = b := ⟨fun h => by have := congrArg Int32.toInt h; rwa [iI_toInt ha, iI_toInt hb] at this, fun h => by rw [h]⟩
theorem iI_0 : (0 : Int32) = iI 0 := rfl
theorem inR_0 : InR 0 := ⟨by decide, by decide⟩
theorem iI_clamp {z : Int} {n : Nat} (h0 : 0 ≤ z) (h1 : z < n) (hn : n < 2147483648) : vp_in (iI z) n ∧ (iI z).toNatClampNeg = z.toNat := by
  have hr : InR z := ⟨by omega, by omega⟩
  have e : (iI z).toNatClampNeg = z.toNat := by
    rw [← Int32.toNat_toInt, iI_toInt hr]
  refine ⟨fun h => ?_, e⟩
  rcases h with h | h
  · rw [iI_0, iI_lt hr inR_0] at h; omega
  · rw [e] at h; omega
def iAnd (a b : Int) : Int := (iI a &&& iI b).toInt
def iOr (a b : Int) : Int := (iI a ||| iI b).toInt
def iShl (a b : Int) : Int := (iI a <<< (iI b &&& 31)).toInt
def iShr (a b : Int) : Int := (iI a >>> (iI b &&& 31)).toInt
def iUsh (a b : Int) : Int := ((iI a).toUInt32 >>> ((iI b).toUInt32 &&& Int32.toUInt32 31)).toInt32.toInt
def iByte (a : Int) : Int := (iI a).toInt8.toInt32.toInt
def iChar (a : Int) : Int := ((iI a).toUInt32 % 65536).toInt32.toInt
theorem iI_div {a b : Int} (ha : InR a) (hb : InR b) (h : InR (a.tdiv b)) : iI a / iI b = iI (a.tdiv b) := by
  apply Int32.toInt_inj.mp
  rw [Int32.toInt_div, iI_toInt ha, iI_toInt hb, iI_toInt h]
  exact Int.bmod_eq_of_le (by have := h.1; omega) (by have := h.2; omega)
theorem iI_rem {a b : Int} (ha : InR a) (hb : InR b) (h : InR (a.tdiv b)) : iI a - iI a / iI b * iI b = iI (a.tmod b) := by
  rw [iI_div ha hb h, iI_mul, iI_sub, Int.tmod_def, Int.mul_comm]
