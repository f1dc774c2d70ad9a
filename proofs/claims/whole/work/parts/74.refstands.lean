/-! the reference: all places at which it stands -/
def stLs (c : Int → Bool) : Nat → Int → List Int
  | 0, _ => []
  | n + 1, p => if c p = true then p :: stLs c n (p + 1) else stLs c n (p + 1)
theorem stLs_len (c : Int → Bool) : ∀ (n : Nat) (p : Int), (stLs c n p).length ≤ n
  | 0, p => Nat.le_refl _
  | n + 1, p => by
    have := stLs_len c n (p + 1)
    unfold stLs
    split
    · rw [List.length_cons]; omega
    · omega
theorem stLs_t {c : Int → Bool} {n : Nat} {p : Int} (h : c p = true) : stLs c (n + 1) p = p :: stLs c n (p + 1) := if_pos h
theorem stLs_f {c : Int → Bool} {n : Nat} {p : Int} (h : ¬ c p = true) : stLs c (n + 1) p = stLs c n (p + 1) := if_neg h
theorem stLs_mem {c : Int → Bool} : ∀ {n : Nat} {p q : Int}, q ∈ stLs c n p ↔ (p ≤ q ∧ q < p + n ∧ c q = true)
  | 0, p, q => by
    constructor
    · intro h; cases h
    · intro h; omega
  | n + 1, p, q => by
    have ih := stLs_mem (c := c) (n := n) (p := p + 1) (q := q)
    by_cases h : c p = true
    · rw [stLs_t h, List.mem_cons, ih]
      constructor
      · rintro (rfl | h1)
        · exact ⟨by omega, by omega, h⟩
        · exact ⟨by omega, by omega, h1.2.2⟩
      · intro h1
        by_cases e : q = p
        · exact Or.inl e
        · exact Or.inr ⟨by omega, by omega, h1.2.2⟩
    · rw [stLs_f h, ih]
      constructor
      · intro h1; exact ⟨by omega, by omega, h1.2.2⟩
      · intro h1
        have : q ≠ p := fun e => h (by rw [← e]; exact h1.2.2)
        exact ⟨by omega, by omega, h1.2.2⟩
theorem cnt_L (c : Int → Bool) : ∀ (n : Nat) (p a : Int), cntF c n p a = a + (stLs c n p).length
  | 0, p, a => by unfold cntF stLs; simp
  | n + 1, p, a => by
    rw [cntF, cnt_L c n]
    by_cases h : c p = true
    · rw [if_pos h, stLs_t h, List.length_cons]; omega
    · rw [if_neg h, stLs_f h]
theorem stAt_L (c : Int → Bool) (i : Int) : ∀ (n : Nat) (p a : Int), a ≤ i → stAtF c i n p a = ((stLs c n p)[(i - a).toNat]?).getD (-1)
  | 0, p, a, h => rfl
  | n + 1, p, a, h => by
    rw [stAtF]
    by_cases hc : c p = true
    · rw [if_pos hc, stLs_t hc]
      by_cases e : a = i
      · rw [if_pos e, e, Int.sub_self]; rfl
      · rw [if_neg e, stAt_L c i n (p + 1) (a + 1) (by omega), show (i - a).toNat = (i - (a + 1)).toNat + 1 by omega, List.getElem?_cons_succ]
    · rw [if_neg hc, stLs_f hc, stAt_L c i n (p + 1) a h]
def SST (c j : Nat) : Prop := (c = 47 ∧ j = 35) ∨ (58 ≤ c ∧ c ≤ 60)
def STA (h : Hp) (γ : Int → Int) (P : Int) (L : List Int) : Prop := hI h 47 35 = L.length ∧ ∀ (k : Nat) (q : Int), L[k]? = some q → hI h 58 k = q ∧ hI h 59 k = plc γ P q 1 ∧ hI h 60 k = plc γ P q 2
theorem SST.km {h h' : Hp} (k : Kp SST h h') : KM h h' := KM.kp k (by unfold SST SMx; omega)
theorem STA.add {h : Hp} {γ : Int → Int} {P : Int} {L : List Int} (s : STA h γ P L) (p : Int) : STA (sI (sI (sI (sI h 58 L.length p) 59 L.length (plc γ P p 1)) 60 L.length (plc γ P p 2)) 47 35 (L.length + 1)) γ P (L ++ [p]) := by
  refine ⟨by rw [hI_same, List.length_append, List.length_singleton]; omega, fun k q hq => ?_⟩
  have hk : k < (L ++ [p]).length := (List.getElem?_eq_some_iff.mp hq).1
  rw [List.length_append, List.length_singleton] at hk
  by_cases e : k = L.length
  · subst e
    rw [List.getElem?_append_right (Nat.le_refl _), Nat.sub_self] at hq
    cases (Option.some.inj hq)
    refine ⟨?_, ?_, ?_⟩
    · rw [hI_sI, if_neg (by omega), hI_sI, if_neg (by omega), hI_sI, if_neg (by omega), hI_sI, if_pos ⟨rfl, rfl⟩]
    · rw [hI_sI, if_neg (by omega), hI_sI, if_neg (by omega), hI_sI, if_pos ⟨rfl, rfl⟩]
    · rw [hI_sI, if_neg (by omega), hI_sI, if_pos ⟨rfl, rfl⟩]
  · rw [List.getElem?_append_left (by omega)] at hq
    have q9 := s.2 k q hq
    refine ⟨?_, ?_, ?_⟩
    · rw [hI_sI, if_neg (by omega), hI_sI, if_neg (by omega), hI_sI, if_neg (by omega), hI_sI, if_neg (by omega)]; exact q9.1
    · rw [hI_sI, if_neg (by omega), hI_sI, if_neg (by omega), hI_sI, if_neg (by omega), hI_sI, if_neg (by omega)]; exact q9.2.1
    · rw [hI_sI, if_neg (by omega), hI_sI, if_neg (by omega), hI_sI, if_neg (by omega), hI_sI, if_neg (by omega)]; exact q9.2.2
theorem gcdI_rec {a b : Int} (ha : 0 ≤ a) (hb : 0 < b) : gcdI a b = gcdI b (a % b) := by
  unfold gcdI
  rw [Nat.gcd_comm, Nat.gcd_rec, Nat.gcd_comm, Int.toNat_emod ha (by omega)]

set_option maxRecDepth 20000 in
theorem S_common1 {X : Cx} {h : Hp} {d : Nat} {a b : Int} (ha : 0 ≤ a ∧ a ≤ 1000000000) (hb : 0 ≤ b ∧ b ≤ 1000000000) (hn : ¬ b = 0 → Spec X mX11_common d [.long (lI b), .long (lI (a % b))] h (fun rv h' => rv = some (.long (lI (gcdI b (a % b)))) ∧ h' = h)) : Spec X mX11_common (d + 1) [.long (lI a), .long (lI b)] h (fun rv h' => rv = some (.long (lI (gcdI a b))) ∧ h' = h) := by
  refine spec_wp (Nat.le_of_ble_eq_true rfl) (by decide +kernel) ?_
  refine wp_loc [(0, .long (lI a)), (2, .long (lI b))] ⟨rfl, rfl, trivial⟩ ?_
  refine wp_lload_n dX11_common_0 rfl ?_
  refine wp_lconst (v := lI 0) dX11_common_1 rfl ?_
  refine wp_lcmp dX11_common_2 ?_
  refine wp_ifne 10 dX11_common_3 (by decide) (lcm_R _ _) (fun c3 => ?_) (fun c3 => ?_)
  · rw [lcm_eq (by unfold InL; omega) (by unfold InL; omega)] at c3
    refine wp_lload_n dX11_common_10 rfl ?_
    refine wp_lload_n dX11_common_11 rfl ?_
    refine wp_lload_n dX11_common_12 rfl ?_
    refine wp_lrem dX11_common_13 (fun q => c3 ((lI_eq (b := 0) (by unfold InL; omega) (by unfold InL; omega)).mp q)) ?_
    rw [lI_rem (by unfold InL; omega) (by unfold InL; omega) (by rw [Int.tdiv_eq_ediv_of_nonneg ha.1]; have q1 := Int.ediv_nonneg ha.1 hb.1; have q2 := Int.ediv_le_self b ha.1; unfold InL; omega), Int.tmod_eq_emod_of_nonneg ha.1]
    refine wp_callSp dX11_common_14 mlX11_98 msX11_common (hn c3) rfl rfl (by omega) (by decide) (Nat.le_of_ble_eq_true rfl) ?_
    exact wp_lret dX11_common_17 rfl (⟨by refine congrArg some (congrArg Value.long (congrArg lI ?_)); exact (gcdI_rec ha.1 (by omega)).symm, rfl⟩)
  · have c3 : lcm (lI b) (lI 0) = 0 := by have := c3; omega
    rw [lcm_eq (by unfold InL; omega) (by unfold InL; omega)] at c3
    refine wp_lload_n dX11_common_6 rfl ?_
    refine wp_goto 17 dX11_common_7 (by decide) ?_
    exact wp_lret dX11_common_17 rfl (⟨by refine congrArg some (congrArg Value.long (congrArg lI ?_)); rw [c3]; unfold gcdI; simp; omega, rfl⟩)

theorem S_X11_common {X : Cx} {h : Hp} : ∀ (k : Nat) (a b : Int), (0 ≤ a ∧ a ≤ 1000000000) → (0 ≤ b ∧ b ≤ 1000000000) → b < 2 ^ k → Spec X mX11_common (2 * k + 1) [.long (lI a), .long (lI b)] h (fun rv h' => rv = some (.long (lI (gcdI a b))) ∧ h' = h)
  | 0, a, b, ha, hb, hk => S_common1 (d := 0) ha hb (fun q => absurd (show b = 0 by omega) q)
  | k + 1, a, b, ha, hb, hk => S_common1 (d := 2 * k + 2) ha hb (fun q => by
      have r0 := Int.emod_nonneg a (b := b) (by omega)
      have r1 := Int.emod_lt_of_pos a (b := b) (by omega)
      refine S_common1 (d := 2 * k + 1) hb ⟨r0, by omega⟩ (fun q2 => ?_)
      have s0 := Int.emod_nonneg b (b := a % b) (by omega)
      have s1 := Int.emod_lt_of_pos b (b := a % b) (by omega)
      refine S_X11_common k (a % b) (b % (a % b)) ⟨r0, by omega⟩ ⟨s0, by omega⟩ ?_
      have h2 : (2 : Int) ^ (k + 1) = 2 * 2 ^ k := by rw [Int.pow_succ, Int.mul_comm]
      have h3 : 2 * (b % (a % b)) < b := by
        by_cases e : 2 * (a % b) ≤ b
        · omega
        · have : b % (a % b) = b - a % b := by
            generalize a % b = r at *
            have z := Int.add_emod_right (b - r) r
            rw [show b - r + r = b by omega] at z
            rw [z]
            exact Int.emod_eq_of_lt (by omega) (by omega)
          omega
      omega)

set_option maxRecDepth 20000 in
theorem S_X11_stand {X : Cx} {h : Hp} {γ : Int → Int} {P p x y : Int} {L : List Int} (s : STA h γ P L) (hl : L.length < 48) (hx : x = plc γ P p 1) (hy : y = plc γ P p 2) : Spec X mX11_stand 0 [.ref (adr X 47), .int (iI p), .int (iI x), .int (iI y)] h (fun rv h' => rv = none ∧ STA h' γ P (L ++ [p]) ∧ Kp SST h h') := by
  have s1 := s.1
  refine spec_wp (Nat.le_of_ble_eq_true rfl) (by decide +kernel) ?_
  refine wp_loc [(0, .ref (adr X 47)), (1, .int (iI p)), (2, .int (iI x)), (3, .int (iI y))] ⟨rfl, rfl, rfl, rfl, trivial⟩ ?_
  refine wp_aload_n dX11_stand_0 rfl ?_
  refine wp_getC dX11_stand_1 flX11_59 rfl rfl ?_
  refine wp_aload_n dX11_stand_4 rfl ?_
  refine wp_getI dX11_stand_5 flX11_317 rfl rfl ?_
  rw [s1]
  refine wp_iload_n dX11_stand_8 rfl ?_
  refine wp_iast (n := 48) dX11_stand_9 rfl (by omega) (by omega) ?_
  refine wp_aload_n dX11_stand_10 rfl ?_
  refine wp_getC dX11_stand_11 flX11_62 rfl rfl ?_
  refine wp_aload_n dX11_stand_14 rfl ?_
  refine wp_getI dX11_stand_15 flX11_317 rfl rfl ?_
  rw [hI_sI, if_neg (by omega), s1]
  refine wp_iload_n dX11_stand_18 rfl ?_
  refine wp_iast (n := 48) dX11_stand_19 rfl (by omega) (by omega) ?_
  refine wp_aload_n dX11_stand_20 rfl ?_
  refine wp_getC dX11_stand_21 flX11_65 rfl rfl ?_
  refine wp_aload_n dX11_stand_24 rfl ?_
  refine wp_getI dX11_stand_25 flX11_317 rfl rfl ?_
  rw [hI_sI, if_neg (by omega), hI_sI, if_neg (by omega), s1]
  refine wp_iload_n dX11_stand_28 rfl ?_
  refine wp_iast (n := 48) dX11_stand_29 rfl (by omega) (by omega) ?_
  refine wp_aload_n dX11_stand_30 rfl ?_
  refine wp_dup dX11_stand_31 rfl ?_
  refine wp_getI dX11_stand_32 flX11_317 rfl rfl ?_
  rw [hI_sI, if_neg (by omega), hI_sI, if_neg (by omega), hI_sI, if_neg (by omega), s1]
  refine wp_iconst dX11_stand_35 ?_
  refine wp_iadd dX11_stand_36 ?_
  refine wp_putI dX11_stand_37 plX11_317 rfl rfl ?_
  exact wp_ret dX11_stand_40 rfl (⟨rfl, by rw [hx, hy]; exact s.add p, (((Kp.sI (Or.inr (by omega))).tr (Kp.sI (Or.inr (by omega)))).tr (Kp.sI (Or.inr (by omega)))).tr (Kp.sI (Or.inl ⟨rfl, rfl⟩))⟩)

set_option maxRecDepth 20000 in
theorem S_X11_layStands {X : Cx} {h : Hp} {γ : Int → Int} {P : Int} {L : List Int} (g : GB2 (GM h)) (hγ : γ = gapF (GM h)) (hP : P = gP (GM h)) (hL : L = stLs (stb γ P) P.toNat 0) : Spec X mX11_layStands 24 [.ref (adr X 47)] h (fun rv h' => rv = none ∧ STA h' γ P L ∧ Kp SST h h') := by
  have g1 := g.1
  have hl24 : L.length ≤ 24 := by have := stLs_len (stb γ P) P.toNat 0; rw [hL]; omega
  refine spec_wp (Nat.le_of_ble_eq_true rfl) (by decide +kernel) ?_
  refine wp_loc [(0, .ref (adr X 47))] ⟨rfl, trivial⟩ ?_
  have Lp : ∀ (n : Nat) (p : Int) (L0 : List Int) (h1 : Hp), (p + n = P ∧ 0 ≤ p) → (STA h1 γ P L0) → (Kp SST h h1) → (L = L0 ++ stLs (stb γ P) n p) → WP X mX11_layStands 24 7 [(0, .ref (adr X 47)), (1, .int (iI p))] [] h1 (fun rv h' => rv = none ∧ STA h' γ P L ∧ Kp SST h h') := by
    intro n
    induction n with
    | zero =>
      intro p L0 h1 hn st kp hV
      have e1 : GM h1 = GM h := GM_km (SST.km kp)
      have e24 : hI h1 47 24 = P := by rw [kp.1 47 24 (by unfold SST; omega)]; exact hP.symm
      have ep : gP (GM h1) = P := e24
      refine wp_iload_n dX11_layStands_7 rfl ?_
      refine wp_aload_n dX11_layStands_8 rfl ?_
      refine wp_getI dX11_layStands_9 flX11_272 rfl rfl ?_
      rw [e24]
      refine wp_icmpge 125 dX11_layStands_12 (by decide) (by unfold InR; omega) (by unfold InR; omega) (fun c12 => ?_) (fun c12 => ?_)
      · exact wp_ret dX11_layStands_125 rfl (⟨rfl, by rw [hV]; unfold stLs; rw [List.append_nil]; exact st, kp⟩)
      · exact absurd c12 (by omega)
    | succ n ih =>
      intro p L0 h1 hn st kp hV
      have e1 : GM h1 = GM h := GM_km (SST.km kp)
      have e24 : hI h1 47 24 = P := by rw [kp.1 47 24 (by unfold SST; omega)]; exact hP.symm
      have ep : gP (GM h1) = P := e24
      refine wp_iload_n dX11_layStands_7 rfl ?_
      refine wp_aload_n dX11_layStands_8 rfl ?_
      refine wp_getI dX11_layStands_9 flX11_272 rfl rfl ?_
      rw [e24]
      refine wp_icmpge 125 dX11_layStands_12 (by decide) (by unfold InR; omega) (by unfold InR; omega) (fun c12 => ?_) (fun c12 => ?_)
      · exact absurd c12 (by omega)
      · refine wp_aload_n dX11_layStands_15 rfl ?_
        refine wp_iload_n dX11_layStands_16 rfl ?_
        refine wp_callVp dX11_layStands_17 mlX11_310 mvX11_gapOf (S_X11_gapOf (p := p) (by rw [e1]; exact g) (by omega)) rfl rfl (by decide) (by decide) rfl rfl rfl (Nat.le_of_ble_eq_true rfl) ?_
        rw [e1, ← hγ]
        refine wp_istore_n dX11_layStands_20 (by decide) ?_
        refine wp_aload_n dX11_layStands_21 rfl ?_
        refine wp_iload_n dX11_layStands_22 rfl ?_
        refine wp_iconst dX11_layStands_23 ?_
        refine wp_iadd dX11_layStands_24 ?_
        refine wp_aload_n dX11_layStands_25 rfl ?_
        refine wp_getI dX11_layStands_26 flX11_272 rfl rfl ?_
        rw [e24]
        refine wp_iremp dX11_layStands_29 (by omega) (by omega) (by unfold InR; omega) (by unfold InR; omega) ?_
        have nb := arnd_b (P := P) (p := p + 1) (by omega)
        have nb : 0 ≤ nx P p ∧ nx P p < P := nb
        rw [show (p + 1) % P = nx P p from arnd_mod (by omega) (by omega)]
        refine wp_callVp dX11_layStands_30 mlX11_310 mvX11_gapOf (S_X11_gapOf (p := nx P p) (by rw [e1]; exact g) (by rw [ep]; exact nb)) rfl rfl (by decide) (by decide) rfl rfl rfl (Nat.le_of_ble_eq_true rfl) ?_
        rw [e1, ← hγ]
        have gb1 : -396 ≤ γ p ∧ γ p ≤ 396 := by rw [hγ]; exact gap_b2 g p
        have gb2 : -396 ≤ γ (nx P p) ∧ γ (nx P p) ≤ 396 := by rw [hγ]; exact gap_b2 g _
        refine wp_istore_n dX11_layStands_33 (by decide) ?_
        have K45 : ∀ (h2 : Hp) (L1 : List Int), STA h2 γ P L1 → Kp SST h h2 → (γ p = 0 ∧ L = L1 ++ stLs (stb γ P) n (p + 1) ∨ ¬ γ p = 0 ∧ L = L1 ++ stLs (stb γ P) (n + 1) p) → WP X mX11_layStands 24 45 [(0, .ref (adr X 47)), (1, .int (iI p)), (2, .int (iI (γ p))), (3, .int (iI (γ (nx P p))))] [] h2 (fun rv h' => rv = none ∧ STA h' γ P L ∧ Kp SST h h') := by
          intro h2 L1 st2 kp2 hc
          have hL1 : L1.length ≤ 24 := by
            have e : L.length = L1.length + (L.length - L1.length) := by rcases hc with ⟨-, q⟩ | ⟨-, q⟩ <;> (rw [q, List.length_append]; omega)
            omega
          refine wp_iload_n dX11_layStands_45 rfl ?_
          refine wp_ifle 53 dX11_layStands_46 (by decide) (by unfold InR; omega) (fun c46 => ?_) (fun c46 => ?_)
          · refine wp_iconst dX11_layStands_53 ?_
            refine wp_iload_n dX11_layStands_54 rfl ?_
            refine wp_ifle 62 dX11_layStands_55 (by decide) (by unfold InR; omega) (fun c55 => ?_) (fun c55 => ?_)
            · refine wp_iconst dX11_layStands_62 ?_
              refine wp_icmpeq 119 dX11_layStands_63 (by decide) (by unfold InR; omega) (by unfold InR; omega) (fun c63 => ?_) (fun c63 => ?_)
              · refine wp_iinc dX11_layStands_119 rfl (by decide) ?_
                refine wp_goto 7 dX11_layStands_122 (by decide) ?_
                rcases hc with ⟨z0, hL⟩ | ⟨z0, hL⟩
                · refine wp_loc [(0, .ref (adr X 47)), (1, .int (iI (p + 1)))] ⟨rfl, rfl, trivial⟩ ?_
                  exact ih (p + 1) L1 h2 (by omega) st2 kp2 hL
                · first
                  | exact absurd (by assumption) z0
                  | (rw [stLs_f (fun z => by rw [stb_t] at z; unfold stn at z; omega)] at hL
                     refine wp_loc [(0, .ref (adr X 47)), (1, .int (iI (p + 1)))] ⟨rfl, rfl, trivial⟩ ?_
                     exact ih (p + 1) L1 h2 (by omega) st2 kp2 hL)
              · exact absurd rfl c63
            · refine wp_iconst dX11_layStands_58 ?_
              refine wp_goto 63 dX11_layStands_59 (by decide) ?_
              refine wp_icmpeq 119 dX11_layStands_63 (by decide) (by unfold InR; omega) (by unfold InR; omega) (fun c63 => ?_) (fun c63 => ?_)
              · exact absurd c63 (by decide)
              · refine wp_iload_n dX11_layStands_66 rfl ?_
                refine wp_ifeq 119 dX11_layStands_67 (by decide) (by unfold InR; omega) (fun c67 => ?_) (fun c67 => ?_)
                · refine wp_iinc dX11_layStands_119 rfl (by decide) ?_
                  refine wp_goto 7 dX11_layStands_122 (by decide) ?_
                  rcases hc with ⟨z0, hL⟩ | ⟨z0, hL⟩
                  · refine wp_loc [(0, .ref (adr X 47)), (1, .int (iI (p + 1)))] ⟨rfl, rfl, trivial⟩ ?_
                    exact ih (p + 1) L1 h2 (by omega) st2 kp2 hL
                  · first
                    | exact absurd (by assumption) z0
                    | (rw [stLs_f (fun z => by rw [stb_t] at z; unfold stn at z; omega)] at hL
                       refine wp_loc [(0, .ref (adr X 47)), (1, .int (iI (p + 1)))] ⟨rfl, rfl, trivial⟩ ?_
                       exact ih (p + 1) L1 h2 (by omega) st2 kp2 hL)
                · refine wp_iload_n dX11_layStands_70 rfl ?_
                  refine wp_ifne 77 dX11_layStands_71 (by decide) (by unfold InR; omega) (fun c71 => ?_) (fun c71 => ?_)
                  · have ia := iabs_b (n := 396) gb1
                    have ib := iabs_b (n := 396) gb2
                    have ip : 0 < iabs (γ p) := by unfold iabs; split <;> omega
                    have cp := gcdI_pos (a := iabs (γ p)) (b := iabs (γ p) + iabs (γ (nx P p))) ip
                    have cl := gcdI_le (a := iabs (γ p)) (b := iabs (γ p) + iabs (γ (nx P p))) ip
                    refine wp_iload_n dX11_layStands_77 rfl ?_
                    refine wp_callSp dX11_layStands_78 mlX11_305 msJ9_abs_0f7a4 (S_J9_abs_0f7a4 (by unfold InR; omega)) rfl rfl (by decide) (by decide) (Nat.le_of_ble_eq_true rfl) ?_
                    refine wp_iload_n dX11_layStands_81 rfl ?_
                    refine wp_callSp dX11_layStands_82 mlX11_305 msJ9_abs_0f7a4 (S_J9_abs_0f7a4 (by unfold InR; omega)) rfl rfl (by decide) (by decide) (Nat.le_of_ble_eq_true rfl) ?_
                    refine wp_iadd dX11_layStands_85 ?_
                    refine wp_istore dX11_layStands_86 (by decide) ?_
                    refine wp_iload_n dX11_layStands_88 rfl ?_
                    refine wp_callSp dX11_layStands_89 mlX11_305 msJ9_abs_0f7a4 (S_J9_abs_0f7a4 (by unfold InR; omega)) rfl rfl (by decide) (by decide) (Nat.le_of_ble_eq_true rfl) ?_
                    refine wp_i2lI dX11_layStands_92 (by first | assumption | (unfold InR; omega)) ?_
                    refine wp_iload dX11_layStands_93 rfl ?_
                    refine wp_i2lI dX11_layStands_95 (by first | assumption | (unfold InR; omega)) ?_
                    refine wp_callSp dX11_layStands_96 mlX11_98 msX11_common (S_X11_common 10 (iabs (γ p)) (iabs (γ p) + iabs (γ (nx P p))) (by omega) (by omega) (by show _ < (1024 : Int); omega)) rfl rfl (by decide) (by decide) (Nat.le_of_ble_eq_true rfl) ?_
                    refine wp_l2iI dX11_layStands_99 ?_
                    refine wp_istore dX11_layStands_100 (by decide) ?_
                    refine wp_aload_n dX11_layStands_102 rfl ?_
                    refine wp_iload_n dX11_layStands_103 rfl ?_
                    refine wp_iload_n dX11_layStands_104 rfl ?_
                    refine wp_callSp dX11_layStands_105 mlX11_305 msJ9_abs_0f7a4 (S_J9_abs_0f7a4 (by unfold InR; omega)) rfl rfl (by decide) (by decide) (Nat.le_of_ble_eq_true rfl) ?_
                    refine wp_iload dX11_layStands_108 rfl ?_
                    refine wp_idivp dX11_layStands_110 (by omega) (by omega) (by unfold InR; omega) (by unfold InR; omega) ?_
                    refine wp_iload dX11_layStands_111 rfl ?_
                    refine wp_iload dX11_layStands_113 rfl ?_
                    refine wp_idivp dX11_layStands_115 (by omega) (by omega) (by unfold InR; omega) (by unfold InR; omega) ?_
                    refine wp_callV dX11_layStands_116 mlX11_320 mvX11_stand (S_X11_stand (γ := γ) (P := P) st2 (by omega) (by unfold plc; rw [if_neg (by decide), if_neg c67, if_pos rfl]) (by unfold plc; rw [if_neg (by decide), if_neg c67, if_neg (by decide)])) rfl rfl (by decide) (by decide) rfl rfl rfl (Nat.le_of_ble_eq_true rfl) ?_
                    rintro rv h3 ⟨rfl, st3, kp3⟩
                    refine wp_iinc dX11_layStands_119 rfl (by decide) ?_
                    refine wp_goto 7 dX11_layStands_122 (by decide) ?_
                    rcases hc with ⟨z0, hL⟩ | ⟨z0, hL⟩
                    · exact absurd z0 c67
                    · rw [stLs_t (by rw [stb_t]; unfold stn; omega)] at hL
                      refine wp_loc [(0, .ref (adr X 47)), (1, .int (iI (p + 1)))] ⟨rfl, rfl, trivial⟩ ?_
                      exact ih (p + 1) (L1 ++ [p]) h3 (by omega) st3 (kp2.tr kp3) (by rw [hL, List.append_assoc]; rfl)
                  · refine wp_goto 119 dX11_layStands_74 (by decide) ?_
                    refine wp_iinc dX11_layStands_119 rfl (by decide) ?_
                    refine wp_goto 7 dX11_layStands_122 (by decide) ?_
                    rcases hc with ⟨z0, hL⟩ | ⟨z0, hL⟩
                    · refine wp_loc [(0, .ref (adr X 47)), (1, .int (iI (p + 1)))] ⟨rfl, rfl, trivial⟩ ?_
                      exact ih (p + 1) L1 h2 (by omega) st2 kp2 hL
                    · first
                      | exact absurd (by assumption) z0
                      | (rw [stLs_f (fun z => by rw [stb_t] at z; unfold stn at z; omega)] at hL
                         refine wp_loc [(0, .ref (adr X 47)), (1, .int (iI (p + 1)))] ⟨rfl, rfl, trivial⟩ ?_
                         exact ih (p + 1) L1 h2 (by omega) st2 kp2 hL)
          · refine wp_iconst dX11_layStands_49 ?_
            refine wp_goto 54 dX11_layStands_50 (by decide) ?_
            refine wp_iload_n dX11_layStands_54 rfl ?_
            refine wp_ifle 62 dX11_layStands_55 (by decide) (by unfold InR; omega) (fun c55 => ?_) (fun c55 => ?_)
            · refine wp_iconst dX11_layStands_62 ?_
              refine wp_icmpeq 119 dX11_layStands_63 (by decide) (by unfold InR; omega) (by unfold InR; omega) (fun c63 => ?_) (fun c63 => ?_)
              · exact absurd c63 (by decide)
              · refine wp_iload_n dX11_layStands_66 rfl ?_
                refine wp_ifeq 119 dX11_layStands_67 (by decide) (by unfold InR; omega) (fun c67 => ?_) (fun c67 => ?_)
                · refine wp_iinc dX11_layStands_119 rfl (by decide) ?_
                  refine wp_goto 7 dX11_layStands_122 (by decide) ?_
                  rcases hc with ⟨z0, hL⟩ | ⟨z0, hL⟩
                  · refine wp_loc [(0, .ref (adr X 47)), (1, .int (iI (p + 1)))] ⟨rfl, rfl, trivial⟩ ?_
                    exact ih (p + 1) L1 h2 (by omega) st2 kp2 hL
                  · first
                    | exact absurd (by assumption) z0
                    | (rw [stLs_f (fun z => by rw [stb_t] at z; unfold stn at z; omega)] at hL
                       refine wp_loc [(0, .ref (adr X 47)), (1, .int (iI (p + 1)))] ⟨rfl, rfl, trivial⟩ ?_
                       exact ih (p + 1) L1 h2 (by omega) st2 kp2 hL)
                · refine wp_iload_n dX11_layStands_70 rfl ?_
                  refine wp_ifne 77 dX11_layStands_71 (by decide) (by unfold InR; omega) (fun c71 => ?_) (fun c71 => ?_)
                  · have ia := iabs_b (n := 396) gb1
                    have ib := iabs_b (n := 396) gb2
                    have ip : 0 < iabs (γ p) := by unfold iabs; split <;> omega
                    have cp := gcdI_pos (a := iabs (γ p)) (b := iabs (γ p) + iabs (γ (nx P p))) ip
                    have cl := gcdI_le (a := iabs (γ p)) (b := iabs (γ p) + iabs (γ (nx P p))) ip
                    refine wp_iload_n dX11_layStands_77 rfl ?_
                    refine wp_callSp dX11_layStands_78 mlX11_305 msJ9_abs_0f7a4 (S_J9_abs_0f7a4 (by unfold InR; omega)) rfl rfl (by decide) (by decide) (Nat.le_of_ble_eq_true rfl) ?_
                    refine wp_iload_n dX11_layStands_81 rfl ?_
                    refine wp_callSp dX11_layStands_82 mlX11_305 msJ9_abs_0f7a4 (S_J9_abs_0f7a4 (by unfold InR; omega)) rfl rfl (by decide) (by decide) (Nat.le_of_ble_eq_true rfl) ?_
                    refine wp_iadd dX11_layStands_85 ?_
                    refine wp_istore dX11_layStands_86 (by decide) ?_
                    refine wp_iload_n dX11_layStands_88 rfl ?_
                    refine wp_callSp dX11_layStands_89 mlX11_305 msJ9_abs_0f7a4 (S_J9_abs_0f7a4 (by unfold InR; omega)) rfl rfl (by decide) (by decide) (Nat.le_of_ble_eq_true rfl) ?_
                    refine wp_i2lI dX11_layStands_92 (by first | assumption | (unfold InR; omega)) ?_
                    refine wp_iload dX11_layStands_93 rfl ?_
                    refine wp_i2lI dX11_layStands_95 (by first | assumption | (unfold InR; omega)) ?_
                    refine wp_callSp dX11_layStands_96 mlX11_98 msX11_common (S_X11_common 10 (iabs (γ p)) (iabs (γ p) + iabs (γ (nx P p))) (by omega) (by omega) (by show _ < (1024 : Int); omega)) rfl rfl (by decide) (by decide) (Nat.le_of_ble_eq_true rfl) ?_
                    refine wp_l2iI dX11_layStands_99 ?_
                    refine wp_istore dX11_layStands_100 (by decide) ?_
                    refine wp_aload_n dX11_layStands_102 rfl ?_
                    refine wp_iload_n dX11_layStands_103 rfl ?_
                    refine wp_iload_n dX11_layStands_104 rfl ?_
                    refine wp_callSp dX11_layStands_105 mlX11_305 msJ9_abs_0f7a4 (S_J9_abs_0f7a4 (by unfold InR; omega)) rfl rfl (by decide) (by decide) (Nat.le_of_ble_eq_true rfl) ?_
                    refine wp_iload dX11_layStands_108 rfl ?_
                    refine wp_idivp dX11_layStands_110 (by omega) (by omega) (by unfold InR; omega) (by unfold InR; omega) ?_
                    refine wp_iload dX11_layStands_111 rfl ?_
                    refine wp_iload dX11_layStands_113 rfl ?_
                    refine wp_idivp dX11_layStands_115 (by omega) (by omega) (by unfold InR; omega) (by unfold InR; omega) ?_
                    refine wp_callV dX11_layStands_116 mlX11_320 mvX11_stand (S_X11_stand (γ := γ) (P := P) st2 (by omega) (by unfold plc; rw [if_neg (by decide), if_neg c67, if_pos rfl]) (by unfold plc; rw [if_neg (by decide), if_neg c67, if_neg (by decide)])) rfl rfl (by decide) (by decide) rfl rfl rfl (Nat.le_of_ble_eq_true rfl) ?_
                    rintro rv h3 ⟨rfl, st3, kp3⟩
                    refine wp_iinc dX11_layStands_119 rfl (by decide) ?_
                    refine wp_goto 7 dX11_layStands_122 (by decide) ?_
                    rcases hc with ⟨z0, hL⟩ | ⟨z0, hL⟩
                    · exact absurd z0 c67
                    · rw [stLs_t (by rw [stb_t]; unfold stn; omega)] at hL
                      refine wp_loc [(0, .ref (adr X 47)), (1, .int (iI (p + 1)))] ⟨rfl, rfl, trivial⟩ ?_
                      exact ih (p + 1) (L1 ++ [p]) h3 (by omega) st3 (kp2.tr kp3) (by rw [hL, List.append_assoc]; rfl)
                  · refine wp_goto 119 dX11_layStands_74 (by decide) ?_
                    refine wp_iinc dX11_layStands_119 rfl (by decide) ?_
                    refine wp_goto 7 dX11_layStands_122 (by decide) ?_
                    rcases hc with ⟨z0, hL⟩ | ⟨z0, hL⟩
                    · refine wp_loc [(0, .ref (adr X 47)), (1, .int (iI (p + 1)))] ⟨rfl, rfl, trivial⟩ ?_
                      exact ih (p + 1) L1 h2 (by omega) st2 kp2 hL
                    · first
                      | exact absurd (by assumption) z0
                      | (rw [stLs_f (fun z => by rw [stb_t] at z; unfold stn at z; omega)] at hL
                         refine wp_loc [(0, .ref (adr X 47)), (1, .int (iI (p + 1)))] ⟨rfl, rfl, trivial⟩ ?_
                         exact ih (p + 1) L1 h2 (by omega) st2 kp2 hL)
            · refine wp_iconst dX11_layStands_58 ?_
              refine wp_goto 63 dX11_layStands_59 (by decide) ?_
              refine wp_icmpeq 119 dX11_layStands_63 (by decide) (by unfold InR; omega) (by unfold InR; omega) (fun c63 => ?_) (fun c63 => ?_)
              · refine wp_iinc dX11_layStands_119 rfl (by decide) ?_
                refine wp_goto 7 dX11_layStands_122 (by decide) ?_
                rcases hc with ⟨z0, hL⟩ | ⟨z0, hL⟩
                · refine wp_loc [(0, .ref (adr X 47)), (1, .int (iI (p + 1)))] ⟨rfl, rfl, trivial⟩ ?_
                  exact ih (p + 1) L1 h2 (by omega) st2 kp2 hL
                · first
                  | exact absurd (by assumption) z0
                  | (rw [stLs_f (fun z => by rw [stb_t] at z; unfold stn at z; omega)] at hL
                     refine wp_loc [(0, .ref (adr X 47)), (1, .int (iI (p + 1)))] ⟨rfl, rfl, trivial⟩ ?_
                     exact ih (p + 1) L1 h2 (by omega) st2 kp2 hL)
              · exact absurd rfl c63
        refine wp_iload_n dX11_layStands_34 rfl ?_
        refine wp_ifne 45 dX11_layStands_35 (by decide) (by unfold InR; omega) (fun c35 => ?_) (fun c35 => ?_)
        · refine wp_loc [(0, .ref (adr X 47)), (1, .int (iI p)), (2, .int (iI (γ p))), (3, .int (iI (γ (nx P p))))] ⟨rfl, rfl, rfl, rfl, trivial⟩ ?_
          exact K45 h1 L0 st kp (Or.inr ⟨c35, hV⟩)
        · have l24 : L0.length ≤ 24 := by have e := congrArg List.length hV; rw [List.length_append] at e; omega
          refine wp_aload_n dX11_layStands_38 rfl ?_
          refine wp_iload_n dX11_layStands_39 rfl ?_
          refine wp_iconst dX11_layStands_40 ?_
          refine wp_iconst dX11_layStands_41 ?_
          refine wp_callV dX11_layStands_42 mlX11_320 mvX11_stand (S_X11_stand (γ := γ) (P := P) st (by omega) (by unfold plc; rw [if_neg (by decide), if_pos c35, if_pos rfl]) (by unfold plc; rw [if_neg (by decide), if_pos c35, if_neg (by decide)])) rfl rfl (by decide) (by decide) rfl rfl rfl (Nat.le_of_ble_eq_true rfl) ?_
          rintro rv h2 ⟨rfl, st2, kp2⟩
          refine wp_loc [(0, .ref (adr X 47)), (1, .int (iI p)), (2, .int (iI (γ p))), (3, .int (iI (γ (nx P p))))] ⟨rfl, rfl, rfl, rfl, trivial⟩ ?_
          exact K45 h2 (L0 ++ [p]) st2 (kp.tr kp2) (Or.inl ⟨c35, by rw [hV, stLs_t (by rw [stb_t]; exact Or.inl c35), List.append_assoc]; rfl⟩)
  refine wp_aload_n dX11_layStands_0 rfl ?_
  refine wp_iconst dX11_layStands_1 ?_
  refine wp_putI dX11_layStands_2 plX11_317 rfl rfl ?_
  refine wp_iconst dX11_layStands_5 ?_
  refine wp_istore_n dX11_layStands_6 (by decide) ?_
  refine wp_loc [(0, .ref (adr X 47)), (1, .int (iI 0))] ⟨rfl, rfl, trivial⟩ ?_
  exact Lp P.toNat 0 [] _ (by omega) ⟨hI_same, fun k q hq => by cases hq⟩ (Kp.sI (Or.inl ⟨rfl, rfl⟩)) hL

set_option maxRecDepth 20000 in
theorem S_X11_standOf {X : Cx} {h : Hp} {γ : Int → Int} {P k w q : Int} {L : List Int} (s : STA h γ P L) (hk : 0 ≤ k) (hq : L[k.toNat]? = some q) (hl : L.length ≤ 48) (hw : 0 ≤ w ∧ w ≤ 2) : Spec X mX11_standOf 0 [.ref (adr X 47), .int (iI k), .int (iI w)] h (fun rv h' => rv = some (.int (iI (plc γ P q w))) ∧ h' = h) := by
  have s2 := s.2 _ _ hq
  have kl : k.toNat < L.length := (List.getElem?_eq_some_iff.mp hq).1
  refine spec_wp (Nat.le_of_ble_eq_true rfl) (by decide +kernel) ?_
  refine wp_loc [(0, .ref (adr X 47)), (1, .int (iI k)), (2, .int (iI w))] ⟨rfl, rfl, rfl, trivial⟩ ?_
  refine wp_iload_n dX11_standOf_0 rfl ?_
  refine wp_ifne 13 dX11_standOf_1 (by decide) (by unfold InR; omega) (fun c1 => ?_) (fun c1 => ?_)
  · refine wp_iload_n dX11_standOf_13 rfl ?_
    refine wp_iconst dX11_standOf_14 ?_
    refine wp_icmpne 27 dX11_standOf_15 (by decide) (by unfold InR; omega) (by unfold InR; omega) (fun c15 => ?_) (fun c15 => ?_)
    · refine wp_aload_n dX11_standOf_27 rfl ?_
      refine wp_getC dX11_standOf_28 flX11_65 rfl rfl ?_
      refine wp_iload_n dX11_standOf_31 rfl ?_
      refine wp_iald dX11_standOf_32 (by first | rfl | exact gs1 hG | exact gs2 hG | exact gs3 hG | exact gs4 hG | exact ws1 hW | exact ws2 hW | assumption) (by omega) (by omega) ?_
      exact wp_iret dX11_standOf_33 rfl (⟨vi (by rw [s2.2.2, show w = 2 by omega]), rfl⟩)
    · refine wp_aload_n dX11_standOf_18 rfl ?_
      refine wp_getC dX11_standOf_19 flX11_62 rfl rfl ?_
      refine wp_iload_n dX11_standOf_22 rfl ?_
      refine wp_iald dX11_standOf_23 (by first | rfl | exact gs1 hG | exact gs2 hG | exact gs3 hG | exact gs4 hG | exact ws1 hW | exact ws2 hW | assumption) (by omega) (by omega) ?_
      refine wp_goto 33 dX11_standOf_24 (by decide) ?_
      exact wp_iret dX11_standOf_33 rfl (⟨vi (by rw [s2.2.1, c15]), rfl⟩)
  · refine wp_aload_n dX11_standOf_4 rfl ?_
    refine wp_getC dX11_standOf_5 flX11_59 rfl rfl ?_
    refine wp_iload_n dX11_standOf_8 rfl ?_
    refine wp_iald dX11_standOf_9 (by first | rfl | exact gs1 hG | exact gs2 hG | exact gs3 hG | exact gs4 hG | exact ws1 hW | exact ws2 hW | assumption) (by omega) (by omega) ?_
    refine wp_goto 33 dX11_standOf_10 (by decide) ?_
    exact wp_iret dX11_standOf_33 rfl (⟨vi (by rw [s2.1]; unfold plc; rw [if_pos c1]), rfl⟩)

theorem stLs_pos {c : Int → Bool} {n k : Nat} {q : Int} (h : (stLs c n 0)[k]? = some q) : 0 ≤ q ∧ q < n ∧ c q = true := by
  have := stLs_mem.mp (List.mem_of_getElem? h)
  exact ⟨by omega, by omega, this.2.2⟩

set_option maxRecDepth 20000 in
theorem S_X11_stands {X : Cx} {h : Hp} {σ : Sg} (am : AM h σ) (o : SOK σ) {i w : Int} (hi : InR i) (hw : InR w) : Spec X mX11_stands 60 [.ref (adr X 47), .int (iI i), .int (iI w)] h (fun rv h' => rv = some (.int (iI (qStands σ i w))) ∧ AM h' σ ∧ sameC h h') := by
  refine spec_wp (Nat.le_of_ble_eq_true rfl) (by decide +kernel) ?_
  refine wp_loc [(0, .ref (adr X 47)), (1, .int (iI i)), (2, .int (iI w))] ⟨rfl, rfl, rfl, trivial⟩ ?_
  refine wp_aload_n dX11_stands_0 rfl ?_
  refine wp_iconst dX11_stands_1 ?_
  refine wp_putI dX11_stands_2 plX11_95 rfl rfl ?_
  have k0 : KM h (sI h 47 0 0) := KM.sI (by unfold SMx; omega)
  have am := am.km k0
  generalize sI h 47 0 0 = h0 at *
  have gk := o.2.2.2.1
  have gb := gk.b
  have gkb := gk.2.1
  have e4 : hI h0 47 24 = gP (sG σ) := am.2.2.2.2.1.1
  have e5 : hI h0 47 26 = gA (sG σ) := am.2.2.2.2.1.2.1
  have e6 : hI h0 47 27 = gK (sG σ) := am.2.2.2.2.1.2.2.1
  have em : GM h0 = gE (sG σ) := am.gm
  have ep : gP (GM h0) = gP (sG σ) := e4
  refine wp_aload_n dX11_stands_5 rfl ?_
  refine wp_getI dX11_stands_6 flX11_272 rfl rfl ?_
  refine wp_ifeq 38 dX11_stands_9 (by decide) (by first | assumption | (unfold InR; omega)) (fun c9 => ?_) (fun c9 => ?_)
  · refine wp_iconst dX11_stands_38 ?_
    exact wp_iret dX11_stands_39 rfl (⟨vi (by unfold qStands; rw [if_pos (by omega)]), am, k0.C⟩)
  · refine wp_iload_n dX11_stands_12 rfl ?_
    refine wp_i2lI dX11_stands_13 (by first | assumption | (unfold InR; omega)) ?_
    refine wp_lconst (v := 0) dX11_stands_14 rfl ?_
    refine wp_ldc2 (v := 2) dX11_stands_15 klX11_324 ?_
    refine wp_callSp dX11_stands_18 mlX11_219 msX11_isIn (S_X11_isIn (a := w) (b := 0) (c := 2) (by first | (exact InR.L (by assumption)) | (unfold InL; omega)) (by unfold InL; omega) (by unfold InL; omega)) rfl rfl (by decide) (by decide) (Nat.le_of_ble_eq_true rfl) ?_
    refine wp_ifeqb 38 dX11_stands_21 (by decide) (fun c21 => ?_) (fun c21 => ?_)
    · refine wp_iconst dX11_stands_38 ?_
      exact wp_iret dX11_stands_39 rfl (⟨vi (by unfold qStands; rw [if_pos (by omega)]), am, k0.C⟩)
    · refine wp_iload_n dX11_stands_24 rfl ?_
      refine wp_iconst dX11_stands_25 ?_
      refine wp_icmplt 38 dX11_stands_26 (by decide) (by first | assumption | (unfold InR; omega)) (by first | assumption | (unfold InR; omega)) (fun c26 => ?_) (fun c26 => ?_)
      · refine wp_iconst dX11_stands_38 ?_
        exact wp_iret dX11_stands_39 rfl (⟨vi (by unfold qStands; rw [if_pos (by omega)]), am, k0.C⟩)
      · refine wp_iload_n dX11_stands_29 rfl ?_
        refine wp_iconst dX11_stands_30 ?_
        refine wp_icmpne 40 dX11_stands_31 (by decide) (by first | assumption | (unfold InR; omega)) (by first | assumption | (unfold InR; omega)) (fun c31 => ?_) (fun c31 => ?_)
        · refine wp_aload_n dX11_stands_40 rfl ?_
          refine wp_callV dX11_stands_41 mlX11_326 mvX11_layStands (S_X11_layStands (γ := gapF (sG σ)) (P := gP (sG σ)) (am.b2 o (by omega)) (by rw [em]; rfl) (by rw [em]; rfl) rfl) rfl rfl (by decide) (by decide) rfl rfl rfl (Nat.le_of_ble_eq_true rfl) ?_
          rintro rv h1 ⟨rfl, st1, kp1⟩
          have k1 := SST.km kp1
          have am1 := am.km k1
          have ll := stLs_len (stb (gapF (sG σ)) (gP (sG σ))) (gP (sG σ)).toNat 0
          obtain ⟨L, hL⟩ : ∃ L, L = stLs (stb (gapF (sG σ)) (gP (sG σ))) (gP (sG σ)).toNat 0 := ⟨_, rfl⟩
          rw [← hL] at st1 ll
          refine wp_iload_n dX11_stands_44 rfl ?_
          refine wp_iconst dX11_stands_45 ?_
          refine wp_icmpne 56 dX11_stands_46 (by decide) (by first | assumption | (unfold InR; omega)) (by first | assumption | (unfold InR; omega)) (fun c46 => ?_) (fun c46 => ?_)
          · refine wp_iload_n dX11_stands_56 rfl ?_
            refine wp_aload_n dX11_stands_57 rfl ?_
            refine wp_getI dX11_stands_58 flX11_317 rfl rfl ?_
            rw [st1.1]
            refine wp_icmpge 73 dX11_stands_61 (by decide) hi (by unfold InR; omega) (fun c61 => ?_) (fun c61 => ?_)
            · refine wp_iconst dX11_stands_73 ?_
              exact wp_iret dX11_stands_74 rfl (⟨vi (by unfold qStands; rw [if_neg (by omega), if_neg c46, stAt_L _ _ _ _ _ (by omega), ← hL, show (i - 0).toNat = i.toNat by omega, List.getElem?_eq_none (by omega)]; rfl), am1, (k0.tr k1).C⟩)
            · obtain ⟨q, hq⟩ : ∃ q, L[i.toNat]? = some q := ⟨_, List.getElem?_eq_getElem (by omega)⟩
              refine wp_aload_n dX11_stands_64 rfl ?_
              refine wp_iload_n dX11_stands_65 rfl ?_
              refine wp_iload_n dX11_stands_66 rfl ?_
              refine wp_callVp dX11_stands_67 mlX11_329 mvX11_standOf (S_X11_standOf (q := q) st1 (by omega) hq (by omega) (by omega)) rfl rfl (by decide) (by decide) rfl rfl rfl (Nat.le_of_ble_eq_true rfl) ?_
              refine wp_goto 74 dX11_stands_70 (by decide) ?_
              exact wp_iret dX11_stands_74 rfl (⟨vi (by unfold qStands; rw [if_neg (by omega), if_neg c46, stAt_L _ _ _ _ _ (by omega), ← hL, show (i - 0).toNat = i.toNat by omega, hq]; show _ = if q = -1 then _ else _; rw [if_neg (by rw [hL] at hq; have := stLs_pos hq; omega)]; rfl), am1, (k0.tr k1).C⟩)
          · refine wp_aload_n dX11_stands_49 rfl ?_
            refine wp_getI dX11_stands_50 flX11_317 rfl rfl ?_
            rw [st1.1]
            refine wp_goto 74 dX11_stands_53 (by decide) ?_
            exact wp_iret dX11_stands_74 rfl (⟨vi (by unfold qStands; rw [if_neg (by omega), if_pos c46, cnt_L, ← hL]; omega), am1, (k0.tr k1).C⟩)
        · refine wp_iload_n dX11_stands_34 rfl ?_
          refine wp_ifeq 40 dX11_stands_35 (by decide) (by first | assumption | (unfold InR; omega)) (fun c35 => ?_) (fun c35 => ?_)
          · refine wp_aload_n dX11_stands_40 rfl ?_
            refine wp_callV dX11_stands_41 mlX11_326 mvX11_layStands (S_X11_layStands (γ := gapF (sG σ)) (P := gP (sG σ)) (am.b2 o (by omega)) (by rw [em]; rfl) (by rw [em]; rfl) rfl) rfl rfl (by decide) (by decide) rfl rfl rfl (Nat.le_of_ble_eq_true rfl) ?_
            rintro rv h1 ⟨rfl, st1, kp1⟩
            have k1 := SST.km kp1
            have am1 := am.km k1
            have ll := stLs_len (stb (gapF (sG σ)) (gP (sG σ))) (gP (sG σ)).toNat 0
            obtain ⟨L, hL⟩ : ∃ L, L = stLs (stb (gapF (sG σ)) (gP (sG σ))) (gP (sG σ)).toNat 0 := ⟨_, rfl⟩
            rw [← hL] at st1 ll
            refine wp_iload_n dX11_stands_44 rfl ?_
            refine wp_iconst dX11_stands_45 ?_
            refine wp_icmpne 56 dX11_stands_46 (by decide) (by first | assumption | (unfold InR; omega)) (by first | assumption | (unfold InR; omega)) (fun c46 => ?_) (fun c46 => ?_)
            · refine wp_iload_n dX11_stands_56 rfl ?_
              refine wp_aload_n dX11_stands_57 rfl ?_
              refine wp_getI dX11_stands_58 flX11_317 rfl rfl ?_
              rw [st1.1]
              refine wp_icmpge 73 dX11_stands_61 (by decide) hi (by unfold InR; omega) (fun c61 => ?_) (fun c61 => ?_)
              · refine wp_iconst dX11_stands_73 ?_
                exact wp_iret dX11_stands_74 rfl (⟨vi (by unfold qStands; rw [if_neg (by omega), if_neg c46, stAt_L _ _ _ _ _ (by omega), ← hL, show (i - 0).toNat = i.toNat by omega, List.getElem?_eq_none (by omega)]; rfl), am1, (k0.tr k1).C⟩)
              · obtain ⟨q, hq⟩ : ∃ q, L[i.toNat]? = some q := ⟨_, List.getElem?_eq_getElem (by omega)⟩
                refine wp_aload_n dX11_stands_64 rfl ?_
                refine wp_iload_n dX11_stands_65 rfl ?_
                refine wp_iload_n dX11_stands_66 rfl ?_
                refine wp_callVp dX11_stands_67 mlX11_329 mvX11_standOf (S_X11_standOf (q := q) st1 (by omega) hq (by omega) (by omega)) rfl rfl (by decide) (by decide) rfl rfl rfl (Nat.le_of_ble_eq_true rfl) ?_
                refine wp_goto 74 dX11_stands_70 (by decide) ?_
                exact wp_iret dX11_stands_74 rfl (⟨vi (by unfold qStands; rw [if_neg (by omega), if_neg c46, stAt_L _ _ _ _ _ (by omega), ← hL, show (i - 0).toNat = i.toNat by omega, hq]; show _ = if q = -1 then _ else _; rw [if_neg (by rw [hL] at hq; have := stLs_pos hq; omega)]; rfl), am1, (k0.tr k1).C⟩)
            · refine wp_aload_n dX11_stands_49 rfl ?_
              refine wp_getI dX11_stands_50 flX11_317 rfl rfl ?_
              rw [st1.1]
              refine wp_goto 74 dX11_stands_53 (by decide) ?_
              exact wp_iret dX11_stands_74 rfl (⟨vi (by unfold qStands; rw [if_neg (by omega), if_pos c46, cnt_L, ← hL]; omega), am1, (k0.tr k1).C⟩)
          · refine wp_iconst dX11_stands_38 ?_
            exact wp_iret dX11_stands_39 rfl (⟨vi (by unfold qStands; rw [if_pos (by omega)]), am, k0.C⟩)

