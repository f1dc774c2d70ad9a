/-! the round: GAPS of all TURNINGS -/
def nx (P p : Int) : Int := arnd P (p + 1)
def stn (γ : Int → Int) (P p : Int) : Prop := γ p = 0 ∨ (0 < γ p ∧ γ (nx P p) < 0) ∨ (γ p < 0 ∧ 0 < γ (nx P p))
/-- cells 42, 43 hold these GAPS -/
def RND (h : Hp) (γ : Int → Int) (P : Int) : Prop := hI h 42 1 = P ∧ 0 ≤ P ∧ P ≤ 24 ∧ ∀ p : Int, 0 ≤ p → p < P → hI h 43 p.toNat - hI h 42 2 = γ p ∧ -1000 ≤ γ p ∧ γ p ≤ 1000
def cntF (c : Int → Bool) : Nat → Int → Int → Int
  | 0, _, a => a
  | n + 1, p, a => cntF c n (p + 1) (if c p then a + 1 else a)
def stb (γ : Int → Int) (P p : Int) : Bool := γ p == 0 || (decide (0 < γ p) && decide (γ (nx P p) < 0)) || (decide (γ p < 0) && decide (0 < γ (nx P p)))
theorem stb_t {γ : Int → Int} {P p : Int} : stb γ P p = true ↔ stn γ P p := by unfold stb stn; simp [or_assoc]

set_option maxRecDepth 20000 in
theorem S_X6_gapAt {X : Cx} {h : Hp} {γ : Int → Int} {P p : Int} (hr : RND h γ P) (hp : 0 ≤ p ∧ p < 2 * P) : Spec X mX6_gapAt 0 [.ref (adr X 42), .int (iI p)] h (fun rv h' => rv = some (.int (iI (γ (arnd P p)))) ∧ h' = h) := by
  obtain ⟨r1, r2, r3, r4⟩ := hr
  refine spec_wp (Nat.le_of_ble_eq_true rfl) (by decide +kernel) ?_
  refine wp_loc [(0, .ref (adr X 42)), (1, .int (iI p))] ⟨rfl, rfl, trivial⟩ ?_
  refine wp_iload_n dX6_gapAt_0 rfl ?_
  refine wp_aload_n dX6_gapAt_1 rfl ?_
  refine wp_getI dX6_gapAt_2 flX6_15 rfl rfl ?_
  refine wp_icmplt 17 dX6_gapAt_5 (by decide) (by unfold InR; omega) (by unfold InR; omega) (fun c5 => ?_) (fun c5 => ?_)
  · refine wp_iload_n dX6_gapAt_17 rfl ?_
    refine wp_istore_n dX6_gapAt_18 (by decide) ?_
    refine wp_iload_n dX6_gapAt_19 rfl ?_
    refine wp_iflt 54 dX6_gapAt_20 (by decide) (by unfold InR; omega) (fun c20 => ?_) (fun c20 => ?_)
    · exact absurd c20 (by omega)
    · refine wp_iload_n dX6_gapAt_23 rfl ?_
      refine wp_aload_n dX6_gapAt_24 rfl ?_
      refine wp_getI dX6_gapAt_25 flX6_15 rfl rfl ?_
      refine wp_icmpge 54 dX6_gapAt_28 (by decide) (by unfold InR; omega) (by unfold InR; omega) (fun c28 => ?_) (fun c28 => ?_)
      · exact absurd c28 (by omega)
      · refine wp_iload_n dX6_gapAt_31 rfl ?_
        refine wp_aload_n dX6_gapAt_32 rfl ?_
        refine wp_getC dX6_gapAt_33 flX6_9 rfl rfl ?_
        refine wp_alen dX6_gapAt_36 (by first | rfl | exact gs1 hG | exact gs2 hG | exact gs3 hG | exact gs4 hG | exact ws1 hW | exact ws2 hW | assumption) (by decide) ?_
        refine wp_icmpge 54 dX6_gapAt_37 (by decide) (by unfold InR; omega) (by unfold InR; omega) (fun c37 => ?_) (fun c37 => ?_)
        · exact absurd c37 (by omega)
        · refine wp_aload_n dX6_gapAt_40 rfl ?_
          refine wp_getC dX6_gapAt_41 flX6_9 rfl rfl ?_
          refine wp_iload_n dX6_gapAt_44 rfl ?_
          refine wp_iald dX6_gapAt_45 (by first | rfl | exact gs1 hG | exact gs2 hG | exact gs3 hG | exact gs4 hG | exact ws1 hW | exact ws2 hW | assumption) (by omega) (by omega) ?_
          refine wp_aload_n dX6_gapAt_46 rfl ?_
          refine wp_getI dX6_gapAt_47 flX6_19 rfl rfl ?_
          refine wp_isub dX6_gapAt_50 ?_
          refine wp_goto 55 dX6_gapAt_51 (by decide) ?_
          exact wp_iret dX6_gapAt_55 rfl (⟨vi (by unfold arnd; rw [← r1]; split <;> first | exact (r4 _ (by omega) (by omega)).1 | omega), rfl⟩)
  · refine wp_iload_n dX6_gapAt_8 rfl ?_
    refine wp_aload_n dX6_gapAt_9 rfl ?_
    refine wp_getI dX6_gapAt_10 flX6_15 rfl rfl ?_
    refine wp_isub dX6_gapAt_13 ?_
    refine wp_goto 18 dX6_gapAt_14 (by decide) ?_
    refine wp_istore_n dX6_gapAt_18 (by decide) ?_
    refine wp_iload_n dX6_gapAt_19 rfl ?_
    refine wp_iflt 54 dX6_gapAt_20 (by decide) (by unfold InR; omega) (fun c20 => ?_) (fun c20 => ?_)
    · exact absurd c20 (by omega)
    · refine wp_iload_n dX6_gapAt_23 rfl ?_
      refine wp_aload_n dX6_gapAt_24 rfl ?_
      refine wp_getI dX6_gapAt_25 flX6_15 rfl rfl ?_
      refine wp_icmpge 54 dX6_gapAt_28 (by decide) (by unfold InR; omega) (by unfold InR; omega) (fun c28 => ?_) (fun c28 => ?_)
      · exact absurd c28 (by omega)
      · refine wp_iload_n dX6_gapAt_31 rfl ?_
        refine wp_aload_n dX6_gapAt_32 rfl ?_
        refine wp_getC dX6_gapAt_33 flX6_9 rfl rfl ?_
        refine wp_alen dX6_gapAt_36 (by first | rfl | exact gs1 hG | exact gs2 hG | exact gs3 hG | exact gs4 hG | exact ws1 hW | exact ws2 hW | assumption) (by decide) ?_
        refine wp_icmpge 54 dX6_gapAt_37 (by decide) (by unfold InR; omega) (by unfold InR; omega) (fun c37 => ?_) (fun c37 => ?_)
        · exact absurd c37 (by omega)
        · refine wp_aload_n dX6_gapAt_40 rfl ?_
          refine wp_getC dX6_gapAt_41 flX6_9 rfl rfl ?_
          refine wp_iload_n dX6_gapAt_44 rfl ?_
          refine wp_iald dX6_gapAt_45 (by first | rfl | exact gs1 hG | exact gs2 hG | exact gs3 hG | exact gs4 hG | exact ws1 hW | exact ws2 hW | assumption) (by omega) (by omega) ?_
          refine wp_aload_n dX6_gapAt_46 rfl ?_
          refine wp_getI dX6_gapAt_47 flX6_19 rfl rfl ?_
          refine wp_isub dX6_gapAt_50 ?_
          refine wp_goto 55 dX6_gapAt_51 (by decide) ?_
          exact wp_iret dX6_gapAt_55 rfl (⟨vi (by unfold arnd; rw [← r1]; split <;> first | exact (r4 _ (by omega) (by omega)).1 | omega), rfl⟩)

theorem arnd_in {P p : Int} (h : p < P) : arnd P p = p := by unfold arnd; rw [if_neg (by omega)]
theorem arnd_b {P p : Int} (h : 0 ≤ p ∧ p < 2 * P) : 0 ≤ arnd P p ∧ arnd P p < P := by unfold arnd; split <;> omega

set_option maxRecDepth 20000 in
theorem S_X6_standsFrom {X : Cx} {h : Hp} {γ : Int → Int} {P p : Int} (hr : RND h γ P) (hp : 0 ≤ p ∧ p < P) : Spec X mX6_standsFrom 1 [.ref (adr X 42), .int (iI p)] h (fun rv h' => rv = some (.int (iI (b2i (stb γ P p = true)))) ∧ h' = h) := by
  have hp0 := hp.1
  have hp1 := hp.2
  have b1 := (hr.2.2.2 p hp0 hp1).2
  have b2 := (hr.2.2.2 (arnd P (p + 1)) (arnd_b (by omega)).1 (arnd_b (by omega)).2).2
  have e1 := arnd_in hp1
  have hs := stb_t (γ := γ) (P := P) (p := p)
  unfold stn nx at hs
  refine spec_wp (Nat.le_of_ble_eq_true rfl) (by decide +kernel) ?_
  refine wp_loc [(0, .ref (adr X 42)), (1, .int (iI p))] ⟨rfl, rfl, trivial⟩ ?_
  refine wp_aload_n dX6_standsFrom_0 rfl ?_
  refine wp_iload_n dX6_standsFrom_1 rfl ?_
  refine wp_callVp dX6_standsFrom_2 mlX6_41 mvX6_gapAt (S_X6_gapAt hr (by omega)) rfl rfl (by decide) (by decide) rfl rfl rfl (Nat.le_of_ble_eq_true rfl) ?_
  rw [e1]
  refine wp_istore_n dX6_standsFrom_5 (by decide) ?_
  refine wp_aload_n dX6_standsFrom_6 rfl ?_
  refine wp_iload_n dX6_standsFrom_7 rfl ?_
  refine wp_iconst dX6_standsFrom_8 ?_
  refine wp_iadd dX6_standsFrom_9 ?_
  refine wp_callVp dX6_standsFrom_10 mlX6_41 mvX6_gapAt (S_X6_gapAt hr (by omega)) rfl rfl (by decide) (by decide) rfl rfl rfl (Nat.le_of_ble_eq_true rfl) ?_
  refine wp_istore_n dX6_standsFrom_13 (by decide) ?_
  refine wp_iload_n dX6_standsFrom_14 rfl ?_
  refine wp_ifeq 34 dX6_standsFrom_15 (by decide) (by unfold InR; omega) (fun c15 => ?_) (fun c15 => ?_)
  · refine wp_iconst dX6_standsFrom_34 ?_
    refine wp_goto 39 dX6_standsFrom_35 (by decide) ?_
    exact wp_zret dX6_standsFrom_39 rfl (by omega) (⟨by first | exact vb1 (hs.mpr (by omega)) | exact vb0 (fun z => by have := hs.mp z; omega), rfl⟩)
  · refine wp_iload_n dX6_standsFrom_18 rfl ?_
    refine wp_ifle 26 dX6_standsFrom_19 (by decide) (by unfold InR; omega) (fun c19 => ?_) (fun c19 => ?_)
    · refine wp_iload_n dX6_standsFrom_26 rfl ?_
      refine wp_ifge 38 dX6_standsFrom_27 (by decide) (by unfold InR; omega) (fun c27 => ?_) (fun c27 => ?_)
      · refine wp_iconst dX6_standsFrom_38 ?_
        exact wp_zret dX6_standsFrom_39 rfl (by omega) (⟨by first | exact vb1 (hs.mpr (by omega)) | exact vb0 (fun z => by have := hs.mp z; omega), rfl⟩)
      · refine wp_iload_n dX6_standsFrom_30 rfl ?_
        refine wp_ifle 38 dX6_standsFrom_31 (by decide) (by unfold InR; omega) (fun c31 => ?_) (fun c31 => ?_)
        · refine wp_iconst dX6_standsFrom_38 ?_
          exact wp_zret dX6_standsFrom_39 rfl (by omega) (⟨by first | exact vb1 (hs.mpr (by omega)) | exact vb0 (fun z => by have := hs.mp z; omega), rfl⟩)
        · refine wp_iconst dX6_standsFrom_34 ?_
          refine wp_goto 39 dX6_standsFrom_35 (by decide) ?_
          exact wp_zret dX6_standsFrom_39 rfl (by omega) (⟨by first | exact vb1 (hs.mpr (by omega)) | exact vb0 (fun z => by have := hs.mp z; omega), rfl⟩)
    · refine wp_iload_n dX6_standsFrom_22 rfl ?_
      refine wp_iflt 34 dX6_standsFrom_23 (by decide) (by unfold InR; omega) (fun c23 => ?_) (fun c23 => ?_)
      · refine wp_iconst dX6_standsFrom_34 ?_
        refine wp_goto 39 dX6_standsFrom_35 (by decide) ?_
        exact wp_zret dX6_standsFrom_39 rfl (by omega) (⟨by first | exact vb1 (hs.mpr (by omega)) | exact vb0 (fun z => by have := hs.mp z; omega), rfl⟩)
      · refine wp_iload_n dX6_standsFrom_26 rfl ?_
        refine wp_ifge 38 dX6_standsFrom_27 (by decide) (by unfold InR; omega) (fun c27 => ?_) (fun c27 => ?_)
        · refine wp_iconst dX6_standsFrom_38 ?_
          exact wp_zret dX6_standsFrom_39 rfl (by omega) (⟨by first | exact vb1 (hs.mpr (by omega)) | exact vb0 (fun z => by have := hs.mp z; omega), rfl⟩)
        · refine wp_iload_n dX6_standsFrom_30 rfl ?_
          refine wp_ifle 38 dX6_standsFrom_31 (by decide) (by unfold InR; omega) (fun c31 => ?_) (fun c31 => ?_)
          · refine wp_iconst dX6_standsFrom_38 ?_
            exact wp_zret dX6_standsFrom_39 rfl (by omega) (⟨by first | exact vb1 (hs.mpr (by omega)) | exact vb0 (fun z => by have := hs.mp z; omega), rfl⟩)
          · refine wp_iconst dX6_standsFrom_34 ?_
            refine wp_goto 39 dX6_standsFrom_35 (by decide) ?_
            exact wp_zret dX6_standsFrom_39 rfl (by omega) (⟨by first | exact vb1 (hs.mpr (by omega)) | exact vb0 (fun z => by have := hs.mp z; omega), rfl⟩)

set_option maxRecDepth 20000 in
theorem S_X6_standCount {X : Cx} {h : Hp} {γ : Int → Int} {P : Int} (hr : RND h γ P) : Spec X mX6_standCount 2 [.ref (adr X 42)] h (fun rv h' => rv = some (.int (iI (cntF (stb γ P) P.toNat 0 0))) ∧ h' = h) := by
  obtain ⟨V, hV0⟩ : ∃ V, V = cntF (stb γ P) P.toNat 0 0 := ⟨_, rfl⟩
  rw [← hV0]
  have r2 := hr.2.1
  refine spec_wp (Nat.le_of_ble_eq_true rfl) (by decide +kernel) ?_
  refine wp_loc [(0, .ref (adr X 42))] ⟨rfl, trivial⟩ ?_
  have L : ∀ (n : Nat) (p a : Int), (p + n = P) → (0 ≤ p ∧ 0 ≤ a) → (V = cntF (stb γ P) n p a) → WP X mX6_standCount 2 4 [(0, .ref (adr X 42)), (1, .int (iI a)), (2, .int (iI p))] [] h (fun rv h' => rv = some (.int (iI V)) ∧ h' = h) := by
    intro n
    induction n with
    | zero =>
      intro p a hn hp hV
      have r1 := hr.1
      have r2 := hr.2.1
      have r3 := hr.2.2.1
      refine wp_iload_n dX6_standCount_4 rfl ?_
      refine wp_aload_n dX6_standCount_5 rfl ?_
      refine wp_getI dX6_standCount_6 flX6_15 rfl rfl ?_
      refine wp_icmpge 29 dX6_standCount_9 (by decide) (by unfold InR; omega) (by unfold InR; omega) (fun c9 => ?_) (fun c9 => ?_)
      · refine wp_iload_n dX6_standCount_29 rfl ?_
        exact wp_iret dX6_standCount_30 rfl (⟨vi (by rw [hV]; rfl), rfl⟩)
      · exact absurd c9 (by omega)
    | succ n ih =>
      intro p a hn hp hV
      have r1 := hr.1
      have r2 := hr.2.1
      have r3 := hr.2.2.1
      refine wp_iload_n dX6_standCount_4 rfl ?_
      refine wp_aload_n dX6_standCount_5 rfl ?_
      refine wp_getI dX6_standCount_6 flX6_15 rfl rfl ?_
      refine wp_icmpge 29 dX6_standCount_9 (by decide) (by unfold InR; omega) (by unfold InR; omega) (fun c9 => ?_) (fun c9 => ?_)
      · exact absurd c9 (by omega)
      · refine wp_aload_n dX6_standCount_12 rfl ?_
        refine wp_iload_n dX6_standCount_13 rfl ?_
        refine wp_callVp dX6_standCount_14 mlX6_45 mvX6_standsFrom (S_X6_standsFrom hr (by omega)) rfl rfl (by decide) (by decide) rfl rfl rfl (Nat.le_of_ble_eq_true rfl) ?_
        refine wp_ifeqb 23 dX6_standCount_17 (by decide) (fun c17 => ?_) (fun c17 => ?_)
        · refine wp_iinc dX6_standCount_23 rfl (by decide) ?_
          refine wp_goto 4 dX6_standCount_26 (by decide) ?_
          refine wp_loc [(0, .ref (adr X 42)), (1, .int (iI _)), (2, .int (iI (p + 1)))] ⟨rfl, rfl, rfl, trivial⟩ ?_
          exact ih _ _ (by omega) (by omega) (hV.trans (by rw [cntF]; simp [c17]))
        · refine wp_iinc dX6_standCount_20 rfl (by decide) ?_
          refine wp_iinc dX6_standCount_23 rfl (by decide) ?_
          refine wp_goto 4 dX6_standCount_26 (by decide) ?_
          refine wp_loc [(0, .ref (adr X 42)), (1, .int (iI _)), (2, .int (iI (p + 1)))] ⟨rfl, rfl, rfl, trivial⟩ ?_
          exact ih _ _ (by omega) (by omega) (hV.trans (by rw [cntF]; simp [c17]))
  refine wp_iconst dX6_standCount_0 ?_
  refine wp_istore_n dX6_standCount_1 (by decide) ?_
  refine wp_iconst dX6_standCount_2 ?_
  refine wp_istore_n dX6_standCount_3 (by decide) ?_
  refine wp_loc [(0, .ref (adr X 42)), (1, .int (iI 0)), (2, .int (iI 0))] ⟨rfl, rfl, rfl, trivial⟩ ?_
  exact L P.toNat 0 0 (by omega) (by omega) hV0

theorem sg_tn (a : Int) : (iI a).toBitVec.toNat = (a % 4294967296).toNat := by
  show (BitVec.ofInt 32 a).toNat = _
  rw [BitVec.toNat_ofInt]
  rfl
theorem sg_sh (a : Int) (ha : InR a) : iI (iShr a 31) = if a < 0 then iI (-1) else iI 0 := by
  unfold iShr
  rw [iI_of]
  apply Int32.toInt_inj.mp
  rw [pk_shr (iI a) (iI 31 &&& 31) 31 (by decide), iI_toInt ha, Int.shiftRight_eq_div_pow]
  unfold InR at ha
  split
  · rw [iI_toInt ⟨by decide, by decide⟩]; omega
  · rw [iI_toInt ⟨by decide, by decide⟩]; omega
theorem sg_us (a : Int) (ha : InR a) : iI (iUsh (-a) 31) = if 0 < a ∨ a = -2147483648 then iI 1 else iI 0 := by
  unfold iUsh
  rw [iI_of]
  apply Int32.toBitVec_inj.mp
  apply BitVec.eq_of_toNat_eq
  rw [pk_ushr (iI (-a)) (iI 31) 31 (by decide), sg_tn]
  unfold InR at ha
  split
  · rw [show (iI 1).toBitVec.toNat = 1 from rfl]; omega
  · rw [show (iI 0).toBitVec.toNat = 0 from rfl]; omega
theorem sgn_bits {a : Int} (ha : InR a) : iI (iOr (iShr a 31) (iUsh (-a) 31)) = iI (sgn a) := by
  unfold iOr
  rw [iI_of, sg_sh a ha, sg_us a ha]
  unfold sgn
  by_cases h1 : a < 0
  · rw [if_pos h1, if_pos h1]
    split <;> decide
  · rw [if_neg h1, if_neg h1]
    by_cases h2 : a = 0
    · rw [if_neg (by omega), if_pos h2]; decide
    · rw [if_pos (by omega), if_neg h2]; decide

set_option maxRecDepth 20000 in
theorem S_J6_signum_0f7a4 {X : Cx} {h : Hp} {a : Int} (ha : InR a) : Spec X mJ6_signum_0f7a4 0 [.int (iI a)] h (fun rv h' => rv = some (.int (iI (sgn a))) ∧ h' = h) := by
  refine spec_wpF (Nat.le_of_ble_eq_true rfl) (by decide +kernel) ?_
  refine wp_loc [(0, .int (iI a))] ⟨rfl, trivial⟩ ?_
  refine wp_iload_n dJ6_signum_0f7a4_0 rfl ?_
  refine wp_bipush dJ6_signum_0f7a4_1 rfl ?_
  refine wp_ishr dJ6_signum_0f7a4_3 ?_
  refine wp_iload_n dJ6_signum_0f7a4_4 rfl ?_
  refine wp_ineg dJ6_signum_0f7a4_5 ?_
  refine wp_bipush dJ6_signum_0f7a4_6 rfl ?_
  refine wp_iushr dJ6_signum_0f7a4_8 ?_
  refine wp_ior dJ6_signum_0f7a4_9 ?_
  exact wp_iret dJ6_signum_0f7a4_10 rfl (⟨by rw [sgn_bits ha], rfl⟩)

theorem sgn_b (a : Int) : -1 ≤ sgn a ∧ sgn a ≤ 1 := by unfold sgn; (repeat' split) <;> omega
def stAtF (c : Int → Bool) (i : Int) : Nat → Int → Int → Int
  | 0, _, _ => -1
  | n + 1, p, a => if c p then (if a = i then p else stAtF c i n (p + 1) (a + 1)) else stAtF c i n (p + 1) a
def fwF (γ : Int → Int) (P fr sp : Int) : Nat → Int → Int
  | 0, _ => -1
  | n + 1, w => if stb γ P (arnd P (fr + w)) then (if γ (arnd P (fr + w)) = 0 ∨ w < sp then arnd P (fr + w) else -1) else fwF γ P fr sp n (w + 1)
def eqF (γ : Int → Int) (v : Int) : Int → Bool := fun p => γ p == v
def lrF (γ : Int → Int) (P sg : Int) : Nat → Int → Int → Int → Int
  | 0, _, _, l => l
  | n + 1, p, r, l => if sgn (γ (arnd P p)) = sg then lrF γ P sg n (p + 1) (r + 1) (max l (r + 1)) else lrF γ P sg n (p + 1) 0 (max l 0)
def eucN : Nat → Nat → Nat → Nat
  | 0, m, _ => m
  | n + 1, m, r => if r = 0 then m else eucN n r (m % r)
theorem eucN_ok : ∀ (k n m r : Nat), r ≤ m → m < 2 ^ k → 2 * k ≤ n → eucN n m r = Nat.gcd m r
  | 0, n, m, r, h1, h2, _ => by
    have hm : m = 0 := by omega
    have hr : r = 0 := by omega
    subst hm hr
    cases n <;> simp [eucN]
  | k + 1, n + 2, m, r, h1, h2, h3 => by
    unfold eucN
    by_cases hr : r = 0
    · rw [if_pos hr, hr, Nat.gcd_zero_right]
    · rw [if_neg hr]
      unfold eucN
      have hlt : m % r < r := Nat.mod_lt _ (by omega)
      by_cases hr2 : m % r = 0
      · rw [if_pos hr2, Nat.gcd_comm, Nat.gcd_rec, hr2, Nat.gcd_zero_left]
      · rw [if_neg hr2]
        have hhalf : m % r < 2 ^ k := by
          have h4 : m % r + r ≤ m := by
            have := Nat.div_add_mod m r
            have h5 : 1 ≤ m / r := Nat.div_pos h1 (by omega)
            have h6 : r * 1 ≤ r * (m / r) := Nat.mul_le_mul_left r h5
            omega
          rw [Nat.pow_succ] at h2
          omega
        rw [eucN_ok k n (m % r) (r % (m % r)) (Nat.le_of_lt (Nat.mod_lt _ (by omega))) hhalf (by omega)]
        rw [Nat.gcd_comm (m % r), ← Nat.gcd_rec, Nat.gcd_comm (m % r) r, Nat.gcd_comm r (m % r), ← Nat.gcd_rec, Nat.gcd_comm]
def gcdI (a b : Int) : Int := (Nat.gcd a.toNat b.toNat : Nat)
theorem eucN_64 {a b : Nat} (ha : a ≤ 1000000000) (hb : b ≤ 1000000000) : eucN 64 a b = Nat.gcd a b := by
  by_cases h : b ≤ a
  · exact eucN_ok 30 64 a b h (by omega) (by omega)
  · unfold eucN
    rw [if_neg (by omega), Nat.mod_eq_of_lt (by omega), eucN_ok 30 63 b a (by omega) (by omega) (by omega), Nat.gcd_comm]
theorem gcdI_pos {a b : Int} (h : 0 < a) : 0 < gcdI a b := by
  unfold gcdI
  have : 0 < Nat.gcd a.toNat b.toNat := Nat.gcd_pos_of_pos_left _ (by omega)
  omega
theorem gcdI_le {a b : Int} (h : 0 < a) : gcdI a b ≤ a := by
  unfold gcdI
  have : Nat.gcd a.toNat b.toNat ≤ a.toNat := Nat.le_of_dvd (by omega) (Nat.gcd_dvd_left _ _)
  omega
def plc (γ : Int → Int) (P p what : Int) : Int := if what = 0 then p else if γ p = 0 then (if what = 1 then 0 else 1) else (if what = 1 then iabs (γ p) else iabs (γ p) + iabs (γ (nx P p))) / gcdI (iabs (γ p)) (iabs (γ p) + iabs (γ (nx P p)))

set_option maxRecDepth 20000 in
theorem S_X10_common {X : Cx} {h : Hp} {a b : Int} (ha : 0 ≤ a ∧ a ≤ 1000000000) (hb : 0 ≤ b ∧ b ≤ 1000000000) : Spec X mX10_common 1 [.int (iI a), .int (iI b)] h (fun rv h' => rv = some (.int (iI (gcdI a b))) ∧ h' = h) := by
  obtain ⟨V, hV0⟩ : ∃ V : Int, V = gcdI a b := ⟨_, rfl⟩
  rw [← hV0]
  have e1 : iabs a = (a.toNat : Nat) := by unfold iabs; split <;> omega
  have e2 : iabs b = (b.toNat : Nat) := by unfold iabs; split <;> omega
  refine spec_wp (Nat.le_of_ble_eq_true rfl) (by decide +kernel) ?_
  refine wp_loc [(0, .int (iI a)), (1, .int (iI b))] ⟨rfl, rfl, trivial⟩ ?_
  have L : ∀ (n : Nat) (m r : Nat) (i : Int), (i + n = 64) → (0 ≤ i) → (m ≤ 1000000000 ∧ r ≤ 1000000000) → (V = (eucN n m r : Nat)) → WP X mX10_common 1 13 [(0, .int (iI a)), (1, .int (iI b)), (2, .int (iI (m : Nat))), (3, .int (iI (r : Nat))), (4, .int (iI i))] [] h (fun rv h' => rv = some (.int (iI V)) ∧ h' = h) := by
    intro n
    induction n with
    | zero =>
      intro m r i hn hi hb hV
      refine wp_iload dX10_common_13 rfl ?_
      refine wp_bipush dX10_common_15 rfl ?_
      refine wp_icmpge 40 dX10_common_17 (by decide) (by unfold InR; omega) (by unfold InR; omega) (fun c17 => ?_) (fun c17 => ?_)
      · refine wp_iload_n dX10_common_40 rfl ?_
        exact wp_iret dX10_common_41 rfl (⟨vi (by rw [hV]; first | rfl | simp [eucN, Int.ofNat_eq_zero.mp c21]), rfl⟩)
      · exact absurd c17 (by omega)
    | succ n ih =>
      intro m r i hn hi hb hV
      refine wp_iload dX10_common_13 rfl ?_
      refine wp_bipush dX10_common_15 rfl ?_
      refine wp_icmpge 40 dX10_common_17 (by decide) (by unfold InR; omega) (by unfold InR; omega) (fun c17 => ?_) (fun c17 => ?_)
      · exact absurd c17 (by omega)
      · refine wp_iload_n dX10_common_20 rfl ?_
        refine wp_ifeq 40 dX10_common_21 (by decide) (by unfold InR; omega) (fun c21 => ?_) (fun c21 => ?_)
        · refine wp_iload_n dX10_common_40 rfl ?_
          exact wp_iret dX10_common_41 rfl (⟨vi (by rw [hV]; first | rfl | simp [eucN, Int.ofNat_eq_zero.mp c21]), rfl⟩)
        · have hr0 : r ≠ 0 := fun z => c21 (by rw [z]; rfl)
          have hlt := Nat.mod_lt m (Nat.pos_of_ne_zero hr0)
          refine wp_iload_n dX10_common_24 rfl ?_
          refine wp_iload_n dX10_common_25 rfl ?_
          refine wp_iremp dX10_common_26 (by omega) (by omega) (by unfold InR; omega) (by unfold InR; omega) ?_
          refine wp_istore dX10_common_27 (by decide) ?_
          refine wp_iload_n dX10_common_29 rfl ?_
          refine wp_istore_n dX10_common_30 (by decide) ?_
          refine wp_iload dX10_common_31 rfl ?_
          refine wp_istore_n dX10_common_33 (by decide) ?_
          refine wp_iinc dX10_common_34 rfl (by decide) ?_
          refine wp_goto 13 dX10_common_37 (by decide) ?_
          refine wp_loc [(0, .int (iI a)), (1, .int (iI b)), (2, .int (iI (r : Nat))), (3, .int (iI (m % r : Nat))), (4, .int (iI (i + 1)))] ⟨rfl, rfl, rfl, rfl, rfl, trivial⟩ ?_
          exact ih r (m % r) (i + 1) (by omega) (by omega) (by omega) (hV.trans (by rw [eucN, if_neg hr0]))
  refine wp_iload_n dX10_common_0 rfl ?_
  refine wp_callSp dX10_common_1 mlX10_222 msJ9_abs_0f7a4 (S_J9_abs_0f7a4 (by unfold InR; omega)) rfl rfl (by decide) (by decide) (Nat.le_of_ble_eq_true rfl) ?_
  rw [e1]
  refine wp_istore_n dX10_common_4 (by decide) ?_
  refine wp_iload_n dX10_common_5 rfl ?_
  refine wp_callSp dX10_common_6 mlX10_222 msJ9_abs_0f7a4 (S_J9_abs_0f7a4 (by unfold InR; omega)) rfl rfl (by decide) (by decide) (Nat.le_of_ble_eq_true rfl) ?_
  rw [e2]
  refine wp_istore_n dX10_common_9 (by decide) ?_
  refine wp_iconst dX10_common_10 ?_
  refine wp_istore dX10_common_11 (by decide) ?_
  refine wp_loc [(0, .int (iI a)), (1, .int (iI b)), (2, .int (iI (a.toNat : Nat))), (3, .int (iI (b.toNat : Nat))), (4, .int (iI 0))] ⟨rfl, rfl, rfl, rfl, rfl, trivial⟩ ?_
  exact L 64 a.toNat b.toNat 0 (by omega) (by omega) (by omega) (by rw [hV0, eucN_64 (by omega) (by omega)]; rfl)

set_option maxRecDepth 20000 in
theorem S_X6_standAt {X : Cx} {h : Hp} {γ : Int → Int} {P i : Int} (hr : RND h γ P) (hi : InR i) : Spec X mX6_standAt 2 [.ref (adr X 42), .int (iI i)] h (fun rv h' => rv = some (.int (iI (stAtF (stb γ P) i P.toNat 0 0))) ∧ h' = h) := by
  obtain ⟨V, hV0⟩ : ∃ V : Int, V = stAtF (stb γ P) i P.toNat 0 0 := ⟨_, rfl⟩
  rw [← hV0]
  have r2 := hr.2.1
  refine spec_wp (Nat.le_of_ble_eq_true rfl) (by decide +kernel) ?_
  refine wp_loc [(0, .ref (adr X 42)), (1, .int (iI i))] ⟨rfl, rfl, trivial⟩ ?_
  have L : ∀ (n : Nat) (p a : Int), (p + n = P) → (0 ≤ p ∧ 0 ≤ a ∧ a ≤ p) → (V = stAtF (stb γ P) i n p a) → WP X mX6_standAt 2 4 [(0, .ref (adr X 42)), (1, .int (iI i)), (2, .int (iI a)), (3, .int (iI p))] [] h (fun rv h' => rv = some (.int (iI V)) ∧ h' = h) := by
    intro n
    induction n with
    | zero =>
      intro p a hn hp hV
      have r1 := hr.1
      have r2 := hr.2.1
      have r3 := hr.2.2.1
      refine wp_iload_n dX6_standAt_4 rfl ?_
      refine wp_aload_n dX6_standAt_5 rfl ?_
      refine wp_getI dX6_standAt_6 flX6_15 rfl rfl ?_
      refine wp_icmpge 36 dX6_standAt_9 (by decide) (by unfold InR; omega) (by unfold InR; omega) (fun c9 => ?_) (fun c9 => ?_)
      · refine wp_iconst dX6_standAt_36 ?_
        exact wp_iret dX6_standAt_37 rfl (⟨vi (by rw [hV]; rfl), rfl⟩)
      · exact absurd c9 (by omega)
    | succ n ih =>
      intro p a hn hp hV
      have r1 := hr.1
      have r2 := hr.2.1
      have r3 := hr.2.2.1
      refine wp_iload_n dX6_standAt_4 rfl ?_
      refine wp_aload_n dX6_standAt_5 rfl ?_
      refine wp_getI dX6_standAt_6 flX6_15 rfl rfl ?_
      refine wp_icmpge 36 dX6_standAt_9 (by decide) (by unfold InR; omega) (by unfold InR; omega) (fun c9 => ?_) (fun c9 => ?_)
      · exact absurd c9 (by omega)
      · refine wp_aload_n dX6_standAt_12 rfl ?_
        refine wp_iload_n dX6_standAt_13 rfl ?_
        refine wp_callVp dX6_standAt_14 mlX6_45 mvX6_standsFrom (S_X6_standsFrom hr (by omega)) rfl rfl (by decide) (by decide) rfl rfl rfl (Nat.le_of_ble_eq_true rfl) ?_
        refine wp_ifeqb 30 dX6_standAt_17 (by decide) (fun c17 => ?_) (fun c17 => ?_)
        · refine wp_iinc dX6_standAt_30 rfl (by decide) ?_
          refine wp_goto 4 dX6_standAt_33 (by decide) ?_
          refine wp_loc [(0, .ref (adr X 42)), (1, .int (iI i)), (2, .int (iI _)), (3, .int (iI (p + 1)))] ⟨rfl, rfl, rfl, rfl, trivial⟩ ?_
          exact ih _ _ (by omega) (by omega) (hV.trans (by rw [stAtF]; first | (simp [c17, c22]; done) | (simp [c17]; done)))
        · refine wp_iload_n dX6_standAt_20 rfl ?_
          refine wp_iload_n dX6_standAt_21 rfl ?_
          refine wp_icmpne 27 dX6_standAt_22 (by decide) (by unfold InR; omega) (by assumption) (fun c22 => ?_) (fun c22 => ?_)
          · refine wp_iinc dX6_standAt_27 rfl (by decide) ?_
            refine wp_iinc dX6_standAt_30 rfl (by decide) ?_
            refine wp_goto 4 dX6_standAt_33 (by decide) ?_
            refine wp_loc [(0, .ref (adr X 42)), (1, .int (iI i)), (2, .int (iI _)), (3, .int (iI (p + 1)))] ⟨rfl, rfl, rfl, rfl, trivial⟩ ?_
            exact ih _ _ (by omega) (by omega) (hV.trans (by rw [stAtF]; first | (simp [c17, c22]; done) | (simp [c17]; done)))
          · refine wp_iload_n dX6_standAt_25 rfl ?_
            exact wp_iret dX6_standAt_26 rfl (⟨vi (by rw [hV, stAtF]; simp [c17, c22]), rfl⟩)
  refine wp_iconst dX6_standAt_0 ?_
  refine wp_istore_n dX6_standAt_1 (by decide) ?_
  refine wp_iconst dX6_standAt_2 ?_
  refine wp_istore_n dX6_standAt_3 (by decide) ?_
  refine wp_loc [(0, .ref (adr X 42)), (1, .int (iI i)), (2, .int (iI 0)), (3, .int (iI 0))] ⟨rfl, rfl, rfl, rfl, trivial⟩ ?_
  exact L P.toNat 0 0 (by omega) (by omega) hV0

set_option maxRecDepth 20000 in
theorem S_X6_turningsWith {X : Cx} {h : Hp} {γ : Int → Int} {P v : Int} (hr : RND h γ P) (hv : InR v) : Spec X mX6_turningsWith 1 [.ref (adr X 42), .int (iI v)] h (fun rv h' => rv = some (.int (iI (cntF (eqF γ v) P.toNat 0 0))) ∧ h' = h) := by
  obtain ⟨V, hV0⟩ : ∃ V : Int, V = cntF (eqF γ v) P.toNat 0 0 := ⟨_, rfl⟩
  rw [← hV0]
  have r2 := hr.2.1
  refine spec_wp (Nat.le_of_ble_eq_true rfl) (by decide +kernel) ?_
  refine wp_loc [(0, .ref (adr X 42)), (1, .int (iI v))] ⟨rfl, rfl, trivial⟩ ?_
  have L : ∀ (n : Nat) (p a : Int), (p + n = P) → (0 ≤ p ∧ 0 ≤ a) → (V = cntF (eqF γ v) n p a) → WP X mX6_turningsWith 1 4 [(0, .ref (adr X 42)), (1, .int (iI v)), (2, .int (iI a)), (3, .int (iI p))] [] h (fun rv h' => rv = some (.int (iI V)) ∧ h' = h) := by
    intro n
    induction n with
    | zero =>
      intro p a hn hp hV
      have r1 := hr.1
      have r2 := hr.2.1
      have r3 := hr.2.2.1
      refine wp_iload_n dX6_turningsWith_4 rfl ?_
      refine wp_aload_n dX6_turningsWith_5 rfl ?_
      refine wp_getI dX6_turningsWith_6 flX6_15 rfl rfl ?_
      refine wp_icmpge 30 dX6_turningsWith_9 (by decide) (by unfold InR; omega) (by unfold InR; omega) (fun c9 => ?_) (fun c9 => ?_)
      · refine wp_iload_n dX6_turningsWith_30 rfl ?_
        exact wp_iret dX6_turningsWith_31 rfl (⟨vi (by rw [hV]; rfl), rfl⟩)
      · exact absurd c9 (by omega)
    | succ n ih =>
      intro p a hn hp hV
      have r1 := hr.1
      have r2 := hr.2.1
      have r3 := hr.2.2.1
      refine wp_iload_n dX6_turningsWith_4 rfl ?_
      refine wp_aload_n dX6_turningsWith_5 rfl ?_
      refine wp_getI dX6_turningsWith_6 flX6_15 rfl rfl ?_
      refine wp_icmpge 30 dX6_turningsWith_9 (by decide) (by unfold InR; omega) (by unfold InR; omega) (fun c9 => ?_) (fun c9 => ?_)
      · exact absurd c9 (by omega)
      · refine wp_aload_n dX6_turningsWith_12 rfl ?_
        refine wp_iload_n dX6_turningsWith_13 rfl ?_
        refine wp_callVp dX6_turningsWith_14 mlX6_41 mvX6_gapAt (S_X6_gapAt hr (by omega)) rfl rfl (by decide) (by decide) rfl rfl rfl (Nat.le_of_ble_eq_true rfl) ?_
        rw [arnd_in (show p < P by omega)]
        have b1 := (hr.2.2.2 p (by omega) (by omega)).2
        refine wp_iload_n dX6_turningsWith_17 rfl ?_
        refine wp_icmpne 24 dX6_turningsWith_18 (by decide) (by unfold InR; omega) (by assumption) (fun c18 => ?_) (fun c18 => ?_)
        · refine wp_iinc dX6_turningsWith_24 rfl (by decide) ?_
          refine wp_goto 4 dX6_turningsWith_27 (by decide) ?_
          refine wp_loc [(0, .ref (adr X 42)), (1, .int (iI v)), (2, .int (iI _)), (3, .int (iI (p + 1)))] ⟨rfl, rfl, rfl, rfl, trivial⟩ ?_
          exact ih _ _ (by omega) (by omega) (hV.trans (by rw [cntF]; simp [eqF, c18]))
        · refine wp_iinc dX6_turningsWith_21 rfl (by decide) ?_
          refine wp_iinc dX6_turningsWith_24 rfl (by decide) ?_
          refine wp_goto 4 dX6_turningsWith_27 (by decide) ?_
          refine wp_loc [(0, .ref (adr X 42)), (1, .int (iI v)), (2, .int (iI _)), (3, .int (iI (p + 1)))] ⟨rfl, rfl, rfl, rfl, trivial⟩ ?_
          exact ih _ _ (by omega) (by omega) (hV.trans (by rw [cntF]; simp [eqF, c18]))
  refine wp_iconst dX6_turningsWith_0 ?_
  refine wp_istore_n dX6_turningsWith_1 (by decide) ?_
  refine wp_iconst dX6_turningsWith_2 ?_
  refine wp_istore_n dX6_turningsWith_3 (by decide) ?_
  refine wp_loc [(0, .ref (adr X 42)), (1, .int (iI v)), (2, .int (iI 0)), (3, .int (iI 0))] ⟨rfl, rfl, rfl, rfl, trivial⟩ ?_
  exact L P.toNat 0 0 (by omega) (by omega) hV0

set_option maxRecDepth 20000 in
theorem S_X6_longestRun {X : Cx} {h : Hp} {γ : Int → Int} {P s : Int} (hr : RND h γ P) (hs : -1 ≤ s ∧ s ≤ 1) : Spec X mX6_longestRun 1 [.ref (adr X 42), .int (iI s)] h (fun rv h' => rv = some (.int (iI (min (lrF γ P s (2 * P).toNat 0 0 0) P))) ∧ h' = h) := by
  obtain ⟨V, hV0⟩ : ∃ V : Int, V = min (lrF γ P s (2 * P).toNat 0 0 0) P := ⟨_, rfl⟩
  rw [← hV0]
  have r2 := hr.2.1
  refine spec_wp (Nat.le_of_ble_eq_true rfl) (by decide +kernel) ?_
  refine wp_loc [(0, .ref (adr X 42)), (1, .int (iI s))] ⟨rfl, rfl, trivial⟩ ?_
  have L : ∀ (n : Nat) (p r l : Int), (p + n = 2 * P) → (0 ≤ p ∧ 0 ≤ r ∧ 0 ≤ l ∧ r ≤ p ∧ l ≤ p) → (V = min (lrF γ P s n p r l) P) → WP X mX6_longestRun 1 7 [(0, .ref (adr X 42)), (1, .int (iI s)), (2, .int (iI r)), (3, .int (iI l)), (4, .int (iI p))] [] h (fun rv h' => rv = some (.int (iI V)) ∧ h' = h) := by
    intro n
    induction n with
    | zero =>
      intro p r l hn hp hV
      have r1 := hr.1
      have r2 := hr.2.1
      have r3 := hr.2.2.1
      refine wp_iload dX6_longestRun_7 rfl ?_
      refine wp_iconst dX6_longestRun_9 ?_
      refine wp_aload_n dX6_longestRun_10 rfl ?_
      refine wp_getI dX6_longestRun_11 flX6_15 rfl rfl ?_
      refine wp_imul dX6_longestRun_14 ?_
      refine wp_icmpge 51 dX6_longestRun_15 (by decide) (by unfold InR; omega) (by unfold InR; omega) (fun c15 => ?_) (fun c15 => ?_)
      · refine wp_iload_n dX6_longestRun_51 rfl ?_
        refine wp_aload_n dX6_longestRun_52 rfl ?_
        refine wp_getI dX6_longestRun_53 flX6_15 rfl rfl ?_
        refine wp_callSp dX6_longestRun_56 mlX6_25 msJ9_min_7cf53 (S_J9_min_7cf53 (by unfold InR; omega) (by unfold InR; omega)) rfl rfl (by decide) (by decide) (Nat.le_of_ble_eq_true rfl) ?_
        exact wp_iret dX6_longestRun_59 rfl (⟨vi (by rw [hV, lrF, r1]), rfl⟩)
      · exact absurd c15 (by omega)
    | succ n ih =>
      intro p r l hn hp hV
      have r1 := hr.1
      have r2 := hr.2.1
      have r3 := hr.2.2.1
      refine wp_iload dX6_longestRun_7 rfl ?_
      refine wp_iconst dX6_longestRun_9 ?_
      refine wp_aload_n dX6_longestRun_10 rfl ?_
      refine wp_getI dX6_longestRun_11 flX6_15 rfl rfl ?_
      refine wp_imul dX6_longestRun_14 ?_
      refine wp_icmpge 51 dX6_longestRun_15 (by decide) (by unfold InR; omega) (by unfold InR; omega) (fun c15 => ?_) (fun c15 => ?_)
      · exact absurd c15 (by omega)
      · refine wp_aload_n dX6_longestRun_18 rfl ?_
        refine wp_iload dX6_longestRun_19 rfl ?_
        refine wp_callVp dX6_longestRun_21 mlX6_41 mvX6_gapAt (S_X6_gapAt hr (by omega)) rfl rfl (by decide) (by decide) rfl rfl rfl (Nat.le_of_ble_eq_true rfl) ?_
        have ab := arnd_b (P := P) (p := p) (by omega)
        have b1 := (hr.2.2.2 _ ab.1 ab.2).2
        refine wp_callSp dX6_longestRun_24 mlX6_55 msJ6_signum_0f7a4 (S_J6_signum_0f7a4 (by first | assumption | (unfold InR; omega))) rfl rfl (by decide) (by decide) (Nat.le_of_ble_eq_true rfl) ?_
        have sb := sgn_b (γ (arnd P p))
        refine wp_iload_n dX6_longestRun_27 rfl ?_
        refine wp_icmpne 37 dX6_longestRun_28 (by decide) (by unfold InR; omega) (by unfold InR; omega) (fun c28 => ?_) (fun c28 => ?_)
        · refine wp_iconst dX6_longestRun_37 ?_
          refine wp_istore_n dX6_longestRun_38 (by decide) ?_
          refine wp_iload_n dX6_longestRun_39 rfl ?_
          refine wp_iload_n dX6_longestRun_40 rfl ?_
          refine wp_callSp dX6_longestRun_41 mlX6_31 msJ9_max_7cf53 (S_J9_max_7cf53 (by unfold InR; omega) (by unfold InR; omega)) rfl rfl (by decide) (by decide) (Nat.le_of_ble_eq_true rfl) ?_
          refine wp_istore_n dX6_longestRun_44 (by decide) ?_
          refine wp_iinc dX6_longestRun_45 rfl (by decide) ?_
          refine wp_goto 7 dX6_longestRun_48 (by decide) ?_
          refine wp_loc [(0, .ref (adr X 42)), (1, .int (iI s)), (2, .int (iI _)), (3, .int (iI _)), (4, .int (iI (p + 1)))] ⟨rfl, rfl, rfl, rfl, rfl, trivial⟩ ?_
          exact ih _ _ _ (by omega) (by omega) (hV.trans (by rw [lrF]; simp [c28]))
        · refine wp_iload_n dX6_longestRun_31 rfl ?_
          refine wp_iconst dX6_longestRun_32 ?_
          refine wp_iadd dX6_longestRun_33 ?_
          refine wp_goto 38 dX6_longestRun_34 (by decide) ?_
          refine wp_istore_n dX6_longestRun_38 (by decide) ?_
          refine wp_iload_n dX6_longestRun_39 rfl ?_
          refine wp_iload_n dX6_longestRun_40 rfl ?_
          refine wp_callSp dX6_longestRun_41 mlX6_31 msJ9_max_7cf53 (S_J9_max_7cf53 (by unfold InR; omega) (by unfold InR; omega)) rfl rfl (by decide) (by decide) (Nat.le_of_ble_eq_true rfl) ?_
          refine wp_istore_n dX6_longestRun_44 (by decide) ?_
          refine wp_iinc dX6_longestRun_45 rfl (by decide) ?_
          refine wp_goto 7 dX6_longestRun_48 (by decide) ?_
          refine wp_loc [(0, .ref (adr X 42)), (1, .int (iI s)), (2, .int (iI _)), (3, .int (iI _)), (4, .int (iI (p + 1)))] ⟨rfl, rfl, rfl, rfl, rfl, trivial⟩ ?_
          exact ih _ _ _ (by omega) (by omega) (hV.trans (by rw [lrF]; simp [c28]))
  refine wp_iconst dX6_longestRun_0 ?_
  refine wp_istore_n dX6_longestRun_1 (by decide) ?_
  refine wp_iconst dX6_longestRun_2 ?_
  refine wp_istore_n dX6_longestRun_3 (by decide) ?_
  refine wp_iconst dX6_longestRun_4 ?_
  refine wp_istore dX6_longestRun_5 (by decide) ?_
  refine wp_loc [(0, .ref (adr X 42)), (1, .int (iI s)), (2, .int (iI 0)), (3, .int (iI 0)), (4, .int (iI 0))] ⟨rfl, rfl, rfl, rfl, rfl, trivial⟩ ?_
  exact L (2 * P).toNat 0 0 0 (by omega) (by omega) hV0

set_option maxRecDepth 20000 in
theorem S_X6_firstWithin {X : Cx} {h : Hp} {γ : Int → Int} {P fr sp : Int} (hr : RND h γ P) (hf : 0 ≤ fr ∧ fr < P) (hs : 0 ≤ sp ∧ sp ≤ P) : Spec X mX6_firstWithin 2 [.ref (adr X 42), .int (iI fr), .int (iI sp)] h (fun rv h' => rv = some (.int (iI (fwF γ P fr sp (min (sp + 1) P).toNat 0))) ∧ h' = h) := by
  obtain ⟨V, hV0⟩ : ∃ V : Int, V = fwF γ P fr sp (min (sp + 1) P).toNat 0 := ⟨_, rfl⟩
  rw [← hV0]
  have r2 := hr.2.1
  refine spec_wp (Nat.le_of_ble_eq_true rfl) (by decide +kernel) ?_
  refine wp_loc [(0, .ref (adr X 42)), (1, .int (iI fr)), (2, .int (iI sp))] ⟨rfl, rfl, rfl, trivial⟩ ?_
  have L : ∀ (n : Nat) (w : Int), (w + n = min (sp + 1) P) → (0 ≤ w) → (V = fwF γ P fr sp n w) → WP X mX6_firstWithin 2 2 [(0, .ref (adr X 42)), (1, .int (iI fr)), (2, .int (iI sp)), (3, .int (iI w))] [] h (fun rv h' => rv = some (.int (iI V)) ∧ h' = h) := by
    intro n
    induction n with
    | zero =>
      intro w hn hp hV
      have r1 := hr.1
      have r2 := hr.2.1
      have r3 := hr.2.2.1
      refine wp_iload_n dX6_firstWithin_2 rfl ?_
      refine wp_iload_n dX6_firstWithin_3 rfl ?_
      refine wp_icmpgt 77 dX6_firstWithin_4 (by decide) (by unfold InR; omega) (by unfold InR; omega) (fun c4 => ?_) (fun c4 => ?_)
      · refine wp_iconst dX6_firstWithin_77 ?_
        exact wp_iret dX6_firstWithin_78 rfl (⟨vi (by rw [hV]; rfl), rfl⟩)
      · refine wp_iload_n dX6_firstWithin_7 rfl ?_
        refine wp_aload_n dX6_firstWithin_8 rfl ?_
        refine wp_getI dX6_firstWithin_9 flX6_15 rfl rfl ?_
        refine wp_icmpge 77 dX6_firstWithin_12 (by decide) (by unfold InR; omega) (by unfold InR; omega) (fun c12 => ?_) (fun c12 => ?_)
        · refine wp_iconst dX6_firstWithin_77 ?_
          exact wp_iret dX6_firstWithin_78 rfl (⟨vi (by rw [hV]; rfl), rfl⟩)
        · exact absurd c12 (by omega)
    | succ n ih =>
      intro w hn hp hV
      have r1 := hr.1
      have r2 := hr.2.1
      have r3 := hr.2.2.1
      refine wp_iload_n dX6_firstWithin_2 rfl ?_
      refine wp_iload_n dX6_firstWithin_3 rfl ?_
      refine wp_icmpgt 77 dX6_firstWithin_4 (by decide) (by unfold InR; omega) (by unfold InR; omega) (fun c4 => ?_) (fun c4 => ?_)
      · exact absurd c4 (by omega)
      · refine wp_iload_n dX6_firstWithin_7 rfl ?_
        refine wp_aload_n dX6_firstWithin_8 rfl ?_
        refine wp_getI dX6_firstWithin_9 flX6_15 rfl rfl ?_
        refine wp_icmpge 77 dX6_firstWithin_12 (by decide) (by unfold InR; omega) (by unfold InR; omega) (fun c12 => ?_) (fun c12 => ?_)
        · exact absurd c12 (by omega)
        · refine wp_iload_n dX6_firstWithin_15 rfl ?_
          refine wp_iload_n dX6_firstWithin_16 rfl ?_
          refine wp_iadd dX6_firstWithin_17 ?_
          refine wp_aload_n dX6_firstWithin_18 rfl ?_
          refine wp_getI dX6_firstWithin_19 flX6_15 rfl rfl ?_
          refine wp_icmplt 36 dX6_firstWithin_22 (by decide) (by unfold InR; omega) (by unfold InR; omega) (fun c22 => ?_) (fun c22 => ?_)
          · refine wp_iload_n dX6_firstWithin_36 rfl ?_
            refine wp_iload_n dX6_firstWithin_37 rfl ?_
            refine wp_iadd dX6_firstWithin_38 ?_
            have ab := arnd_b (P := P) (p := fr + w) (by omega)
            have b1 := (hr.2.2.2 _ ab.1 ab.2).2
            first
              | rw [show fr + w - hI h 42 1 = arnd P (fr + w) by unfold arnd; rw [if_pos (by omega), r1]]
              | rw [show fr + w = arnd P (fr + w) by unfold arnd; rw [if_neg (by omega)]]
            generalize hq : arnd P (fr + w) = q at ab b1
            refine wp_istore dX6_firstWithin_39 (by decide) ?_
            refine wp_aload_n dX6_firstWithin_41 rfl ?_
            refine wp_iload dX6_firstWithin_42 rfl ?_
            refine wp_callVp dX6_firstWithin_44 mlX6_45 mvX6_standsFrom (S_X6_standsFrom hr (by omega)) rfl rfl (by decide) (by decide) rfl rfl rfl (Nat.le_of_ble_eq_true rfl) ?_
            refine wp_ifeqb 71 dX6_firstWithin_47 (by decide) (fun c47 => ?_) (fun c47 => ?_)
            · refine wp_iinc dX6_firstWithin_71 rfl (by decide) ?_
              refine wp_goto 2 dX6_firstWithin_74 (by decide) ?_
              refine wp_loc [(0, .ref (adr X 42)), (1, .int (iI fr)), (2, .int (iI sp)), (3, .int (iI (w + 1)))] ⟨rfl, rfl, rfl, rfl, trivial⟩ ?_
              exact ih (w + 1) (by omega) (by omega) (hV.trans (by rw [fwF, hq]; simp [c47]))
            · refine wp_aload_n dX6_firstWithin_50 rfl ?_
              refine wp_iload dX6_firstWithin_51 rfl ?_
              refine wp_callVp dX6_firstWithin_53 mlX6_41 mvX6_gapAt (S_X6_gapAt hr (by omega)) rfl rfl (by decide) (by decide) rfl rfl rfl (Nat.le_of_ble_eq_true rfl) ?_
              rw [arnd_in ab.2]
              refine wp_ifeq 64 dX6_firstWithin_56 (by decide) (by unfold InR; omega) (fun c56 => ?_) (fun c56 => ?_)
              · refine wp_iload dX6_firstWithin_64 rfl ?_
                refine wp_goto 70 dX6_firstWithin_66 (by decide) ?_
                exact wp_iret dX6_firstWithin_70 rfl (⟨vi (by rw [hV, fwF, hq]; simp [c47, c56]), rfl⟩)
              · refine wp_iload_n dX6_firstWithin_59 rfl ?_
                refine wp_iload_n dX6_firstWithin_60 rfl ?_
                refine wp_icmpge 69 dX6_firstWithin_61 (by decide) (by unfold InR; omega) (by unfold InR; omega) (fun c61 => ?_) (fun c61 => ?_)
                · refine wp_iconst dX6_firstWithin_69 ?_
                  exact wp_iret dX6_firstWithin_70 rfl (⟨vi (by rw [hV, fwF, hq]; simp [c47, c56, Int.not_lt.mpr c61]), rfl⟩)
                · refine wp_iload dX6_firstWithin_64 rfl ?_
                  refine wp_goto 70 dX6_firstWithin_66 (by decide) ?_
                  exact wp_iret dX6_firstWithin_70 rfl (⟨vi (by rw [hV, fwF, hq]; simp [c47, Int.not_le.mp c61]), rfl⟩)
          · refine wp_iload_n dX6_firstWithin_25 rfl ?_
            refine wp_iload_n dX6_firstWithin_26 rfl ?_
            refine wp_iadd dX6_firstWithin_27 ?_
            refine wp_aload_n dX6_firstWithin_28 rfl ?_
            refine wp_getI dX6_firstWithin_29 flX6_15 rfl rfl ?_
            refine wp_isub dX6_firstWithin_32 ?_
            refine wp_goto 39 dX6_firstWithin_33 (by decide) ?_
            have ab := arnd_b (P := P) (p := fr + w) (by omega)
            have b1 := (hr.2.2.2 _ ab.1 ab.2).2
            first
              | rw [show fr + w - hI h 42 1 = arnd P (fr + w) by unfold arnd; rw [if_pos (by omega), r1]]
              | rw [show fr + w = arnd P (fr + w) by unfold arnd; rw [if_neg (by omega)]]
            generalize hq : arnd P (fr + w) = q at ab b1
            refine wp_istore dX6_firstWithin_39 (by decide) ?_
            refine wp_aload_n dX6_firstWithin_41 rfl ?_
            refine wp_iload dX6_firstWithin_42 rfl ?_
            refine wp_callVp dX6_firstWithin_44 mlX6_45 mvX6_standsFrom (S_X6_standsFrom hr (by omega)) rfl rfl (by decide) (by decide) rfl rfl rfl (Nat.le_of_ble_eq_true rfl) ?_
            refine wp_ifeqb 71 dX6_firstWithin_47 (by decide) (fun c47 => ?_) (fun c47 => ?_)
            · refine wp_iinc dX6_firstWithin_71 rfl (by decide) ?_
              refine wp_goto 2 dX6_firstWithin_74 (by decide) ?_
              refine wp_loc [(0, .ref (adr X 42)), (1, .int (iI fr)), (2, .int (iI sp)), (3, .int (iI (w + 1)))] ⟨rfl, rfl, rfl, rfl, trivial⟩ ?_
              exact ih (w + 1) (by omega) (by omega) (hV.trans (by rw [fwF, hq]; simp [c47]))
            · refine wp_aload_n dX6_firstWithin_50 rfl ?_
              refine wp_iload dX6_firstWithin_51 rfl ?_
              refine wp_callVp dX6_firstWithin_53 mlX6_41 mvX6_gapAt (S_X6_gapAt hr (by omega)) rfl rfl (by decide) (by decide) rfl rfl rfl (Nat.le_of_ble_eq_true rfl) ?_
              rw [arnd_in ab.2]
              refine wp_ifeq 64 dX6_firstWithin_56 (by decide) (by unfold InR; omega) (fun c56 => ?_) (fun c56 => ?_)
              · refine wp_iload dX6_firstWithin_64 rfl ?_
                refine wp_goto 70 dX6_firstWithin_66 (by decide) ?_
                exact wp_iret dX6_firstWithin_70 rfl (⟨vi (by rw [hV, fwF, hq]; simp [c47, c56]), rfl⟩)
              · refine wp_iload_n dX6_firstWithin_59 rfl ?_
                refine wp_iload_n dX6_firstWithin_60 rfl ?_
                refine wp_icmpge 69 dX6_firstWithin_61 (by decide) (by unfold InR; omega) (by unfold InR; omega) (fun c61 => ?_) (fun c61 => ?_)
                · refine wp_iconst dX6_firstWithin_69 ?_
                  exact wp_iret dX6_firstWithin_70 rfl (⟨vi (by rw [hV, fwF, hq]; simp [c47, c56, Int.not_lt.mpr c61]), rfl⟩)
                · refine wp_iload dX6_firstWithin_64 rfl ?_
                  refine wp_goto 70 dX6_firstWithin_66 (by decide) ?_
                  exact wp_iret dX6_firstWithin_70 rfl (⟨vi (by rw [hV, fwF, hq]; simp [c47, Int.not_le.mp c61]), rfl⟩)
  refine wp_iconst dX6_firstWithin_0 ?_
  refine wp_istore_n dX6_firstWithin_1 (by decide) ?_
  refine wp_loc [(0, .ref (adr X 42)), (1, .int (iI fr)), (2, .int (iI sp)), (3, .int (iI 0))] ⟨rfl, rfl, rfl, rfl, trivial⟩ ?_
  exact L (min (sp + 1) P).toNat 0 (by omega) (by omega) hV0

set_option maxRecDepth 20000 in
theorem S_X6_place {X : Cx} {h : Hp} {γ : Int → Int} {P p w : Int} (hr : RND h γ P) (hp : 0 ≤ p ∧ p < P) (hw : 0 ≤ w ∧ w ≤ 2) : Spec X mX6_place 2 [.ref (adr X 42), .int (iI p), .int (iI w)] h (fun rv h' => rv = some (.int (iI (plc γ P p w))) ∧ h' = h) := by
  have r2 := hr.2.1
  have b1 := (hr.2.2.2 p hp.1 hp.2).2
  have ab := arnd_b (P := P) (p := p + 1) (by omega)
  have b2 := (hr.2.2.2 _ ab.1 ab.2).2
  have u1 := iabs_b (n := 1000) b1
  have u2 := iabs_b (n := 1000) b2
  have z1 : iabs (γ p) = 0 ↔ γ p = 0 := by unfold iabs; split <;> omega
  have e1 := arnd_in hp.2
  refine spec_wp (Nat.le_of_ble_eq_true rfl) (by decide +kernel) ?_
  refine wp_loc [(0, .ref (adr X 42)), (1, .int (iI p)), (2, .int (iI w))] ⟨rfl, rfl, rfl, trivial⟩ ?_
  refine wp_aload_n dX6_place_0 rfl ?_
  refine wp_iload_n dX6_place_1 rfl ?_
  refine wp_callVp dX6_place_2 mlX6_41 mvX6_gapAt (S_X6_gapAt hr (by omega)) rfl rfl (by decide) (by decide) rfl rfl rfl (Nat.le_of_ble_eq_true rfl) ?_
  rw [e1]
  refine wp_callSp dX6_place_5 mlX6_49 msJ9_abs_0f7a4 (S_J9_abs_0f7a4 (by unfold InR; omega)) rfl rfl (by decide) (by decide) (Nat.le_of_ble_eq_true rfl) ?_
  refine wp_istore_n dX6_place_8 (by decide) ?_
  refine wp_iload_n dX6_place_9 rfl ?_
  refine wp_ifne 15 dX6_place_10 (by decide) (by unfold InR; omega) (fun c10 => ?_) (fun c10 => ?_)
  · refine wp_iload_n dX6_place_15 rfl ?_
    refine wp_ifne 30 dX6_place_16 (by decide) (by unfold InR; omega) (fun c16 => ?_) (fun c16 => ?_)
    · refine wp_iload_n dX6_place_30 rfl ?_
      refine wp_aload_n dX6_place_31 rfl ?_
      refine wp_iload_n dX6_place_32 rfl ?_
      refine wp_iconst dX6_place_33 ?_
      refine wp_iadd dX6_place_34 ?_
      refine wp_callVp dX6_place_35 mlX6_41 mvX6_gapAt (S_X6_gapAt hr (by omega)) rfl rfl (by decide) (by decide) rfl rfl rfl (Nat.le_of_ble_eq_true rfl) ?_
      refine wp_callSp dX6_place_38 mlX6_49 msJ9_abs_0f7a4 (S_J9_abs_0f7a4 (by unfold InR; omega)) rfl rfl (by decide) (by decide) (Nat.le_of_ble_eq_true rfl) ?_
      refine wp_iadd dX6_place_41 ?_
      refine wp_istore dX6_place_42 (by decide) ?_
      refine wp_iload_n dX6_place_44 rfl ?_
      refine wp_iload dX6_place_45 rfl ?_
      refine wp_callNp dX6_place_47 (by first | exact Or.inl ⟨rfl, rfl, rfl⟩ | exact Or.inr ⟨rfl, rfl, rfl⟩) msX10_common (S_X10_common (by omega) (by omega)) rfl rfl (by decide) (by decide) (Nat.le_of_ble_eq_true rfl) ?_
      refine wp_istore dX6_place_50 (by decide) ?_
      have gp := gcdI_pos (a := iabs (γ p)) (b := iabs (γ p) + iabs (γ (arnd P (p + 1)))) (by omega)
      have gl := gcdI_le (a := iabs (γ p)) (b := iabs (γ p) + iabs (γ (arnd P (p + 1)))) (by omega)
      refine wp_iload dX6_place_52 rfl ?_
      refine wp_ifne 61 dX6_place_54 (by decide) (by unfold InR; omega) (fun c54 => ?_) (fun c54 => ?_)
      · refine wp_iload_n dX6_place_61 rfl ?_
        refine wp_iconst dX6_place_62 ?_
        refine wp_icmpne 70 dX6_place_63 (by decide) (by unfold InR; omega) (by unfold InR; omega) (fun c63 => ?_) (fun c63 => ?_)
        · refine wp_iload dX6_place_70 rfl ?_
          refine wp_iload dX6_place_72 rfl ?_
          refine wp_idivp dX6_place_74 (by omega) (by omega) (by unfold InR; omega) (by unfold InR; omega) ?_
          exact wp_iret dX6_place_75 rfl (⟨vi (by unfold plc nx; rw [if_neg (by omega), if_neg (by omega)]; first | rw [if_pos (by omega)] | rw [if_neg (by omega)]), rfl⟩)
        · refine wp_iload_n dX6_place_66 rfl ?_
          refine wp_goto 72 dX6_place_67 (by decide) ?_
          refine wp_iload dX6_place_72 rfl ?_
          refine wp_idivp dX6_place_74 (by omega) (by omega) (by unfold InR; omega) (by unfold InR; omega) ?_
          exact wp_iret dX6_place_75 rfl (⟨vi (by unfold plc nx; rw [if_neg (by omega), if_neg (by omega)]; first | rw [if_pos (by omega)] | rw [if_neg (by omega)]), rfl⟩)
      · omega
    · refine wp_iload_n dX6_place_19 rfl ?_
      refine wp_iconst dX6_place_20 ?_
      refine wp_icmpne 28 dX6_place_21 (by decide) (by unfold InR; omega) (by unfold InR; omega) (fun c21 => ?_) (fun c21 => ?_)
      · refine wp_iconst dX6_place_28 ?_
        exact wp_iret dX6_place_29 rfl (⟨vi (by unfold plc; rw [if_neg (by omega), if_pos (by omega)]; split <;> omega), rfl⟩)
      · refine wp_iconst dX6_place_24 ?_
        refine wp_goto 29 dX6_place_25 (by decide) ?_
        exact wp_iret dX6_place_29 rfl (⟨vi (by unfold plc; rw [if_neg (by omega), if_pos (by omega)]; split <;> omega), rfl⟩)
  · refine wp_iload_n dX6_place_13 rfl ?_
    exact wp_iret dX6_place_14 rfl (⟨vi (by unfold plc; rw [if_pos (by omega)]), rfl⟩)

