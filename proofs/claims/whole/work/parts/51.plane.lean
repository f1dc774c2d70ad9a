/-! PLANE -/
def slK (h : Hp) (b : Nat) (P A p k : Int) : Hp := sA h b (fun i => if (i : Int) < k then slp P A p i else hI h b i)
theorem slK_I {h : Hp} {b c j : Nat} {P A p k : Int} (hc : c ≠ b) : hI (slK h b P A p k) c j = hI h c j := by unfold slK; rw [hI_sA, if_neg hc]
theorem slK_s {h : Hp} {b : Nat} {P A p k : Int} (hk : 0 ≤ k) : sI (slK h b P A p k) b k.toNat (slp P A p k) = slK h b P A p (k + 1) := by
  unfold slK
  rw [sI_sA]
  refine sA_congr (fun i => ?_)
  by_cases hi : i = k.toNat
  · rw [if_pos hi, if_pos (by omega), hi, show ((k.toNat : Nat) : Int) = k by omega]
  · rw [if_neg hi]
    by_cases h2 : (i : Int) < k
    · rw [if_pos h2, if_pos (by omega)]
    · rw [if_neg h2, if_neg (by omega)]
theorem m1b {s x B : Int} (hs : -1 ≤ s ∧ s ≤ 1) (hx : -B ≤ x ∧ x ≤ B) : -B ≤ s * x ∧ s * x ≤ B := by
  rcases (show s = -1 ∨ s = 0 ∨ s = 1 by omega) with q | q | q <;> rw [q] <;> omega
theorem m1c {s x B : Int} (hs : -1 ≤ s ∧ s ≤ 1) (hx : -B ≤ x ∧ x ≤ B) : -B ≤ x * s ∧ x * s ≤ B := by rw [Int.mul_comm]; exact m1b hs hx
theorem tdv_b {a b B : Int} (ha : -B ≤ a ∧ a ≤ B) : -B ≤ a.tdiv b ∧ a.tdiv b ≤ B := by
  have h := Int.natAbs_tdiv_le_natAbs a b
  omega
def chA (x y a b : Int) : Int := if x = 0 then -b * y else -a * x
theorem chA_b {x y a b B : Int} (hx : -1 ≤ x ∧ x ≤ 1) (hy : -1 ≤ y ∧ y ≤ 1) (ha : -B ≤ a ∧ a ≤ B) (hb : -B ≤ b ∧ b ≤ B) : -B ≤ chA x y a b ∧ chA x y a b ≤ B := by
  unfold chA
  split
  · exact m1c hy (by omega)
  · exact m1c hx (by omega)
def oneB (x y a b H : Int) : Bool := decide (x * chA x y a b = -a ∧ y * chA x y a b = -b ∧ 0 ≤ H + chA x y a b ∧ H + chA x y a b ≤ 99)
def alB (x y u w a b H K : Int) : Bool := decide (x * chA x y a b = -a ∧ y * chA x y a b = -b ∧ (if x = u ∧ y = w then -H + -K ≤ chA x y a b ∧ chA x y a b ≤ 99 - H + (99 - K) else -H + (K - 99) ≤ chA x y a b ∧ chA x y a b ≤ 99 - H + K))
def twB (x y u w a b H K : Int) : Bool := decide (¬ (x = 0 ∧ y = 0 ∨ u = 0 ∧ w = 0)) && (if x * w - u * y = 0 then alB x y u w a b H K else decide (x * ((u * b - a * w).tdiv (x * w - u * y)) + u * ((a * y - x * b).tdiv (x * w - u * y)) = -a ∧ y * ((u * b - a * w).tdiv (x * w - u * y)) + w * ((a * y - x * b).tdiv (x * w - u * y)) = -b ∧ (0 ≤ H + (u * b - a * w).tdiv (x * w - u * y) ∧ H + (u * b - a * w).tdiv (x * w - u * y) ≤ 99) ∧ 0 ≤ K + (a * y - x * b).tdiv (x * w - u * y) ∧ K + (a * y - x * b).tdiv (x * w - u * y) ≤ 99))

set_option maxRecDepth 20000 in
theorem S_X3_laySlopes {X : Cx} {h : Hp} {a b : Nat} {p : Int} (g : GB h a) (hp : 0 ≤ p ∧ p ≤ 100) (hb : shp[b]? = some (.inl (0, 24))) (hb2 : 40 ≤ b) : Spec X mX3_laySlopes 4 [.ref (adr X a), .int (iI p), .ref (adr X b)] h (fun rv h' => rv = none ∧ h' = slK h b (hI h a 4) (hI h a 5) p (hI h a 4)) := by
  have hG := g.1
  have ga : 20 ≤ a ∧ a ≤ 25 := by rcases hG with q | q <;> omega
  have g1 := g.2.1
  have g2 := g.2.2.1
  have e0 : slK h b (hI h a 4) (hI h a 5) p 0 = h := sI_same (fun i => if_neg (by omega))
  refine spec_wp (Nat.le_of_ble_eq_true rfl) (by decide +kernel) ?_
  refine wp_loc [(0, .ref (adr X a)), (1, .int (iI p)), (2, .ref (adr X b))] ⟨rfl, rfl, rfl, trivial⟩ ?_
  have L : ∀ (n : Nat) (k : Int), (k + n = hI h a 4) → (0 ≤ k) → WP X mX3_laySlopes 4 2 [(0, .ref (adr X a)), (1, .int (iI p)), (2, .ref (adr X b)), (3, .int (iI k))] [] (slK h b (hI h a 4) (hI h a 5) p k) (fun rv h' => rv = none ∧ h' = slK h b (hI h a 4) (hI h a 5) p (hI h a 4)) := by
    intro n
    induction n with
    | zero =>
      intro k hn hk
      have k1 := GB.keep (h' := slK h b (hI h a 4) (hI h a 5) p k) g (fun c j q1 q2 => slK_I (by omega))
      have k4 : hI (slK h b (hI h a 4) (hI h a 5) p k) a 4 = hI h a 4 := slK_I (by omega)
      have k5 : hI (slK h b (hI h a 4) (hI h a 5) p k) a 5 = hI h a 5 := slK_I (by omega)
      refine wp_iload_n dX3_laySlopes_2 rfl ?_
      refine wp_aload_n dX3_laySlopes_3 rfl ?_
      refine wp_getI dX3_laySlopes_4 flX3_24 (gs0 hG) rfl ?_
      refine wp_icmpge 31 dX3_laySlopes_7 (by decide) (by unfold InR; omega) (by unfold InR; omega) (fun c7 => ?_) (fun c7 => ?_)
      · exact wp_ret dX3_laySlopes_31 rfl (⟨rfl, by rw [show k = hI h a 4 by omega]⟩)
      · exact absurd c7 (by omega)
    | succ n ih =>
      intro k hn hk
      have k1 := GB.keep (h' := slK h b (hI h a 4) (hI h a 5) p k) g (fun c j q1 q2 => slK_I (by omega))
      have k4 : hI (slK h b (hI h a 4) (hI h a 5) p k) a 4 = hI h a 4 := slK_I (by omega)
      have k5 : hI (slK h b (hI h a 4) (hI h a 5) p k) a 5 = hI h a 5 := slK_I (by omega)
      refine wp_iload_n dX3_laySlopes_2 rfl ?_
      refine wp_aload_n dX3_laySlopes_3 rfl ?_
      refine wp_getI dX3_laySlopes_4 flX3_24 (gs0 hG) rfl ?_
      refine wp_icmpge 31 dX3_laySlopes_7 (by decide) (by unfold InR; omega) (by unfold InR; omega) (fun c7 => ?_) (fun c7 => ?_)
      · exact absurd c7 (by omega)
      · refine wp_iload_n dX3_laySlopes_10 rfl ?_
        refine wp_aload_n dX3_laySlopes_11 rfl ?_
        refine wp_alen dX3_laySlopes_12 hb (by decide) ?_
        refine wp_icmpge 31 dX3_laySlopes_13 (by decide) (by unfold InR; omega) (by unfold InR; omega) (fun c13 => ?_) (fun c13 => ?_)
        · exact absurd c13 (by omega)
        · refine wp_aload_n dX3_laySlopes_16 rfl ?_
          refine wp_iload_n dX3_laySlopes_17 rfl ?_
          refine wp_aload_n dX3_laySlopes_18 rfl ?_
          refine wp_iload_n dX3_laySlopes_19 rfl ?_
          refine wp_iload_n dX3_laySlopes_20 rfl ?_
          refine wp_callVp dX3_laySlopes_21 mlX3_90 mvX3_slope (S_X3_slope k1 hp (by unfold InR; omega)) rfl rfl (by decide) (by decide) (gs0 hG) rfl rfl (Nat.le_of_ble_eq_true rfl) ?_
          rw [k4, k5]
          refine wp_iast dX3_laySlopes_24 hb (by omega) (by omega) ?_
          rw [slK_s hk]
          refine wp_iinc dX3_laySlopes_25 rfl (by decide) ?_
          refine wp_goto 2 dX3_laySlopes_28 (by decide) ?_
          refine wp_loc [(0, .ref (adr X a)), (1, .int (iI p)), (2, .ref (adr X b)), (3, .int (iI (k + 1)))] ⟨rfl, rfl, rfl, rfl, trivial⟩ ?_
          exact ih (k + 1) (by omega) (by omega)
  refine wp_iconst dX3_laySlopes_0 ?_
  refine wp_istore_n dX3_laySlopes_1 (by decide) ?_
  refine wp_loc [(0, .ref (adr X a)), (1, .int (iI p)), (2, .ref (adr X b)), (3, .int (iI 0))] ⟨rfl, rfl, rfl, rfl, trivial⟩ ?_
  have q := L (hI h a 4).toNat 0 (by omega) (by omega)
  rw [e0] at q
  exact q

set_option maxRecDepth 20000 in
theorem S_X10_changeAlong {X : Cx} {h : Hp} (g : GB h (hR h 0 6)) (sb : ∀ i : Nat, (i : Int) < hI h (hR h 0 6) 4 → (-1 ≤ hI h 45 i ∧ hI h 45 i ≤ 1) ∧ -1 ≤ hI h 46 i ∧ hI h 46 i ≤ 1) {q a b : Int} (hq : 0 ≤ q ∧ q < hI h (hR h 0 6) 4) (ha : -400 ≤ a ∧ a ≤ 400) (hb : -400 ≤ b ∧ b ≤ 400) : Spec X mX10_changeAlong 0 [.ref (adr X 0), .int (iI q), .int (iI a), .int (iI b)] h (fun rv h' => rv = some (.int (iI (chA (hI h 45 q.toNat) (hI h 46 q.toNat) a b))) ∧ h' = h) := by
  have hG := g.1
  have g1 := g.2.1
  have g2 := g.2.2.1
  have sq := sb q.toNat (by omega)
  have cb := chA_b (x := hI h 45 q.toNat) (y := hI h 46 q.toNat) sq.1 sq.2 ha hb
  have Hq := htO_b g q
  refine spec_wp (Nat.le_of_ble_eq_true rfl) (by decide +kernel) ?_
  refine wp_loc [(0, .ref (adr X 0)), (1, .int (iI q)), (2, .int (iI a)), (3, .int (iI b))] ⟨rfl, rfl, rfl, rfl, trivial⟩ ?_
  refine wp_aload_n dX10_changeAlong_0 rfl ?_
  refine wp_getC dX10_changeAlong_1 flX10_96 rfl rfl ?_
  refine wp_iload_n dX10_changeAlong_4 rfl ?_
  refine wp_iald dX10_changeAlong_5 (by first | rfl | exact gs1 hG | exact gs2 hG | exact gs3 hG | exact gs4 hG | exact ws1 hW | exact ws2 hW | assumption) (by omega) (by omega) ?_
  refine wp_ifeq 21 dX10_changeAlong_6 (by decide) (by unfold InR; omega) (fun c6 => ?_) (fun c6 => ?_)
  · refine wp_iload_n dX10_changeAlong_21 rfl ?_
    refine wp_ineg dX10_changeAlong_22 ?_
    refine wp_aload_n dX10_changeAlong_23 rfl ?_
    refine wp_getC dX10_changeAlong_24 flX10_99 rfl rfl ?_
    refine wp_iload_n dX10_changeAlong_27 rfl ?_
    refine wp_iald dX10_changeAlong_28 (by first | rfl | exact gs1 hG | exact gs2 hG | exact gs3 hG | exact gs4 hG | exact ws1 hW | exact ws2 hW | assumption) (by omega) (by omega) ?_
    refine wp_imul dX10_changeAlong_29 ?_
    exact wp_iret dX10_changeAlong_30 rfl (⟨vi (by unfold chA; first | rw [if_pos (by omega)] | rw [if_neg (by omega)]), rfl⟩)
  · refine wp_iload_n dX10_changeAlong_9 rfl ?_
    refine wp_ineg dX10_changeAlong_10 ?_
    refine wp_aload_n dX10_changeAlong_11 rfl ?_
    refine wp_getC dX10_changeAlong_12 flX10_96 rfl rfl ?_
    refine wp_iload_n dX10_changeAlong_15 rfl ?_
    refine wp_iald dX10_changeAlong_16 (by first | rfl | exact gs1 hG | exact gs2 hG | exact gs3 hG | exact gs4 hG | exact ws1 hW | exact ws2 hW | assumption) (by omega) (by omega) ?_
    refine wp_imul dX10_changeAlong_17 ?_
    refine wp_goto 30 dX10_changeAlong_18 (by decide) ?_
    exact wp_iret dX10_changeAlong_30 rfl (⟨vi (by unfold chA; first | rw [if_pos (by omega)] | rw [if_neg (by omega)]), rfl⟩)

set_option maxRecDepth 20000 in
theorem S_X10_evenedByOne {X : Cx} {h : Hp} (g : GB h (hR h 0 6)) (sb : ∀ i : Nat, (i : Int) < hI h (hR h 0 6) 4 → (-1 ≤ hI h 45 i ∧ hI h 45 i ≤ 1) ∧ -1 ≤ hI h 46 i ∧ hI h 46 i ≤ 1) {q a b : Int} (hq : 0 ≤ q ∧ q < hI h (hR h 0 6) 4) (ha : -400 ≤ a ∧ a ≤ 400) (hb : -400 ≤ b ∧ b ≤ 400) : Spec X mX10_evenedByOne 3 [.ref (adr X 0), .int (iI q), .int (iI a), .int (iI b)] h (fun rv h' => rv = some (.int (iI (b2i (oneB (hI h 45 q.toNat) (hI h 46 q.toNat) a b (htO h (hR h 0 6) q) = true)))) ∧ h' = h) := by
  have hG := g.1
  have g1 := g.2.1
  have g2 := g.2.2.1
  have sq := sb q.toNat (by omega)
  have cb := chA_b (x := hI h 45 q.toNat) (y := hI h 46 q.toNat) sq.1 sq.2 ha hb
  have Hq := htO_b g q
  have mx := m1b (s := hI h 45 q.toNat) (x := chA (hI h 45 q.toNat) (hI h 46 q.toNat) a b) sq.1 cb
  have my := m1b (s := hI h 46 q.toNat) (x := chA (hI h 45 q.toNat) (hI h 46 q.toNat) a b) sq.2 cb
  have ob : oneB (hI h 45 q.toNat) (hI h 46 q.toNat) a b (htO h (hR h 0 6) q) = true ↔ _ := decide_eq_true_iff
  refine spec_wp (Nat.le_of_ble_eq_true rfl) (by decide +kernel) ?_
  refine wp_loc [(0, .ref (adr X 0)), (1, .int (iI q)), (2, .int (iI a)), (3, .int (iI b))] ⟨rfl, rfl, rfl, rfl, trivial⟩ ?_
  refine wp_aload_n dX10_evenedByOne_0 rfl ?_
  refine wp_iload_n dX10_evenedByOne_1 rfl ?_
  refine wp_iload_n dX10_evenedByOne_2 rfl ?_
  refine wp_iload_n dX10_evenedByOne_3 rfl ?_
  refine wp_callVp dX10_evenedByOne_4 mlX10_271 mvX10_changeAlong (S_X10_changeAlong g sb hq ha hb) rfl rfl (by decide) (by decide) rfl rfl rfl (Nat.le_of_ble_eq_true rfl) ?_
  refine wp_istore dX10_evenedByOne_7 (by decide) ?_
  refine wp_aload_n dX10_evenedByOne_9 rfl ?_
  refine wp_getC dX10_evenedByOne_10 flX10_96 rfl rfl ?_
  refine wp_iload_n dX10_evenedByOne_13 rfl ?_
  refine wp_iald dX10_evenedByOne_14 (by first | rfl | exact gs1 hG | exact gs2 hG | exact gs3 hG | exact gs4 hG | exact ws1 hW | exact ws2 hW | assumption) (by omega) (by omega) ?_
  refine wp_iload dX10_evenedByOne_15 rfl ?_
  refine wp_imul dX10_evenedByOne_17 ?_
  refine wp_iload_n dX10_evenedByOne_18 rfl ?_
  refine wp_ineg dX10_evenedByOne_19 ?_
  refine wp_icmpne 58 dX10_evenedByOne_20 (by decide) (by unfold InR; omega) (by unfold InR; omega) (fun c20 => ?_) (fun c20 => ?_)
  · refine wp_iconst dX10_evenedByOne_58 ?_
    exact wp_zret dX10_evenedByOne_59 rfl (by omega) (⟨by first | exact vb1 (ob.mpr (by omega)) | exact vb0 (fun z => by have := ob.mp z; omega), rfl⟩)
  · refine wp_aload_n dX10_evenedByOne_23 rfl ?_
    refine wp_getC dX10_evenedByOne_24 flX10_99 rfl rfl ?_
    refine wp_iload_n dX10_evenedByOne_27 rfl ?_
    refine wp_iald dX10_evenedByOne_28 (by first | rfl | exact gs1 hG | exact gs2 hG | exact gs3 hG | exact gs4 hG | exact ws1 hW | exact ws2 hW | assumption) (by omega) (by omega) ?_
    refine wp_iload dX10_evenedByOne_29 rfl ?_
    refine wp_imul dX10_evenedByOne_31 ?_
    refine wp_iload_n dX10_evenedByOne_32 rfl ?_
    refine wp_ineg dX10_evenedByOne_33 ?_
    refine wp_icmpne 58 dX10_evenedByOne_34 (by decide) (by unfold InR; omega) (by unfold InR; omega) (fun c34 => ?_) (fun c34 => ?_)
    · refine wp_iconst dX10_evenedByOne_58 ?_
      exact wp_zret dX10_evenedByOne_59 rfl (by omega) (⟨by first | exact vb1 (ob.mpr (by omega)) | exact vb0 (fun z => by have := ob.mp z; omega), rfl⟩)
    · refine wp_aload_n dX10_evenedByOne_37 rfl ?_
      refine wp_getM dX10_evenedByOne_38 flX10_46 rfl rfl ?_
      refine wp_iload_n dX10_evenedByOne_41 rfl ?_
      refine wp_callVp dX10_evenedByOne_42 mlX10_159 mvX3_heightOf (S_X3_heightOf g (by first | assumption | (unfold InR; omega))) rfl rfl (by decide) (by decide) (gs0 hG) rfl rfl (Nat.le_of_ble_eq_true rfl) ?_
      refine wp_iload dX10_evenedByOne_45 rfl ?_
      refine wp_iadd dX10_evenedByOne_47 ?_
      refine wp_callSp dX10_evenedByOne_48 mlX10_253 msX10_isTold (S_X10_isTold (by first | assumption | (unfold InR; omega))) rfl rfl (by decide) (by decide) (Nat.le_of_ble_eq_true rfl) ?_
      refine wp_ifeqb 58 dX10_evenedByOne_51 (by decide) (fun c51 => ?_) (fun c51 => ?_)
      · refine wp_iconst dX10_evenedByOne_58 ?_
        exact wp_zret dX10_evenedByOne_59 rfl (by omega) (⟨by first | exact vb1 (ob.mpr (by omega)) | exact vb0 (fun z => by have := ob.mp z; omega), rfl⟩)
      · refine wp_iconst dX10_evenedByOne_54 ?_
        refine wp_goto 59 dX10_evenedByOne_55 (by decide) ?_
        exact wp_zret dX10_evenedByOne_59 rfl (by omega) (⟨by first | exact vb1 (ob.mpr (by omega)) | exact vb0 (fun z => by have := ob.mp z; omega), rfl⟩)

set_option maxRecDepth 20000 in
theorem S_X10_evenedAlongOneLine {X : Cx} {h : Hp} (g : GB h (hR h 0 6)) (sb : ∀ i : Nat, (i : Int) < hI h (hR h 0 6) 4 → (-1 ≤ hI h 45 i ∧ hI h 45 i ≤ 1) ∧ -1 ≤ hI h 46 i ∧ hI h 46 i ≤ 1) {q s a b : Int} (hq : 0 ≤ q ∧ q < hI h (hR h 0 6) 4) (ha : -400 ≤ a ∧ a ≤ 400) (hb : -400 ≤ b ∧ b ≤ 400) (hs : 0 ≤ s ∧ s < hI h (hR h 0 6) 4) : Spec X mX10_evenedAlongOneLine 3 [.ref (adr X 0), .int (iI q), .int (iI s), .int (iI a), .int (iI b)] h (fun rv h' => rv = some (.int (iI (b2i (alB (hI h 45 q.toNat) (hI h 46 q.toNat) (hI h 45 s.toNat) (hI h 46 s.toNat) a b (htO h (hR h 0 6) q) (htO h (hR h 0 6) s) = true)))) ∧ h' = h) := by
  have hG := g.1
  have g1 := g.2.1
  have g2 := g.2.2.1
  have sq := sb q.toNat (by omega)
  have cb := chA_b (x := hI h 45 q.toNat) (y := hI h 46 q.toNat) sq.1 sq.2 ha hb
  have Hq := htO_b g q
  have ss := sb s.toNat (by omega)
  have Hs := htO_b g s
  have mx := m1b (s := hI h 45 q.toNat) (x := chA (hI h 45 q.toNat) (hI h 46 q.toNat) a b) sq.1 cb
  have my := m1b (s := hI h 46 q.toNat) (x := chA (hI h 45 q.toNat) (hI h 46 q.toNat) a b) sq.2 cb
  have ob : alB (hI h 45 q.toNat) (hI h 46 q.toNat) (hI h 45 s.toNat) (hI h 46 s.toNat) a b (htO h (hR h 0 6) q) (htO h (hR h 0 6) s) = true ↔ _ := decide_eq_true_iff
  refine spec_wp (Nat.le_of_ble_eq_true rfl) (by decide +kernel) ?_
  refine wp_loc [(0, .ref (adr X 0)), (1, .int (iI q)), (2, .int (iI s)), (3, .int (iI a)), (4, .int (iI b))] ⟨rfl, rfl, rfl, rfl, rfl, trivial⟩ ?_
  refine wp_aload_n dX10_evenedAlongOneLine_0 rfl ?_
  refine wp_iload_n dX10_evenedAlongOneLine_1 rfl ?_
  refine wp_iload_n dX10_evenedAlongOneLine_2 rfl ?_
  refine wp_iload dX10_evenedAlongOneLine_3 rfl ?_
  refine wp_callVp dX10_evenedAlongOneLine_5 mlX10_271 mvX10_changeAlong (S_X10_changeAlong g sb hq ha hb) rfl rfl (by decide) (by decide) rfl rfl rfl (Nat.le_of_ble_eq_true rfl) ?_
  refine wp_istore dX10_evenedAlongOneLine_8 (by decide) ?_
  refine wp_aload_n dX10_evenedAlongOneLine_10 rfl ?_
  refine wp_getC dX10_evenedAlongOneLine_11 flX10_96 rfl rfl ?_
  refine wp_iload_n dX10_evenedAlongOneLine_14 rfl ?_
  refine wp_iald dX10_evenedAlongOneLine_15 (by first | rfl | exact gs1 hG | exact gs2 hG | exact gs3 hG | exact gs4 hG | exact ws1 hW | exact ws2 hW | assumption) (by omega) (by omega) ?_
  refine wp_iload dX10_evenedAlongOneLine_16 rfl ?_
  refine wp_imul dX10_evenedAlongOneLine_18 ?_
  refine wp_iload_n dX10_evenedAlongOneLine_19 rfl ?_
  refine wp_ineg dX10_evenedAlongOneLine_20 ?_
  refine wp_icmpne 39 dX10_evenedAlongOneLine_21 (by decide) (by unfold InR; omega) (by unfold InR; omega) (fun c21 => ?_) (fun c21 => ?_)
  · refine wp_iconst dX10_evenedAlongOneLine_39 ?_
    exact wp_zret dX10_evenedAlongOneLine_40 rfl (by omega) (⟨vb0 (fun z => by have := ob.mp z; omega), rfl⟩)
  · refine wp_aload_n dX10_evenedAlongOneLine_24 rfl ?_
    refine wp_getC dX10_evenedAlongOneLine_25 flX10_99 rfl rfl ?_
    refine wp_iload_n dX10_evenedAlongOneLine_28 rfl ?_
    refine wp_iald dX10_evenedAlongOneLine_29 (by first | rfl | exact gs1 hG | exact gs2 hG | exact gs3 hG | exact gs4 hG | exact ws1 hW | exact ws2 hW | assumption) (by omega) (by omega) ?_
    refine wp_iload dX10_evenedAlongOneLine_30 rfl ?_
    refine wp_imul dX10_evenedAlongOneLine_32 ?_
    refine wp_iload dX10_evenedAlongOneLine_33 rfl ?_
    refine wp_ineg dX10_evenedAlongOneLine_35 ?_
    refine wp_icmpeq 41 dX10_evenedAlongOneLine_36 (by decide) (by unfold InR; omega) (by unfold InR; omega) (fun c36 => ?_) (fun c36 => ?_)
    · refine wp_aload_n dX10_evenedAlongOneLine_41 rfl ?_
      refine wp_getC dX10_evenedAlongOneLine_42 flX10_96 rfl rfl ?_
      refine wp_iload_n dX10_evenedAlongOneLine_45 rfl ?_
      refine wp_iald dX10_evenedAlongOneLine_46 (by first | rfl | exact gs1 hG | exact gs2 hG | exact gs3 hG | exact gs4 hG | exact ws1 hW | exact ws2 hW | assumption) (by omega) (by omega) ?_
      refine wp_aload_n dX10_evenedAlongOneLine_47 rfl ?_
      refine wp_getC dX10_evenedAlongOneLine_48 flX10_96 rfl rfl ?_
      refine wp_iload_n dX10_evenedAlongOneLine_51 rfl ?_
      refine wp_iald dX10_evenedAlongOneLine_52 (by first | rfl | exact gs1 hG | exact gs2 hG | exact gs3 hG | exact gs4 hG | exact ws1 hW | exact ws2 hW | assumption) (by omega) (by omega) ?_
      refine wp_icmpne 75 dX10_evenedAlongOneLine_53 (by decide) (by unfold InR; omega) (by unfold InR; omega) (fun c53 => ?_) (fun c53 => ?_)
      · refine wp_iconst dX10_evenedAlongOneLine_75 ?_
        refine wp_istore dX10_evenedAlongOneLine_76 (by decide) ?_
        refine wp_aload_n dX10_evenedAlongOneLine_78 rfl ?_
        refine wp_getM dX10_evenedAlongOneLine_79 flX10_46 rfl rfl ?_
        refine wp_iload_n dX10_evenedAlongOneLine_82 rfl ?_
        refine wp_callVp dX10_evenedAlongOneLine_83 mlX10_159 mvX3_heightOf (S_X3_heightOf g (by first | assumption | (unfold InR; omega))) rfl rfl (by decide) (by decide) (gs0 hG) rfl rfl (Nat.le_of_ble_eq_true rfl) ?_
        refine wp_istore dX10_evenedAlongOneLine_86 (by decide) ?_
        refine wp_aload_n dX10_evenedAlongOneLine_88 rfl ?_
        refine wp_getM dX10_evenedAlongOneLine_89 flX10_46 rfl rfl ?_
        refine wp_iload_n dX10_evenedAlongOneLine_92 rfl ?_
        refine wp_callVp dX10_evenedAlongOneLine_93 mlX10_159 mvX3_heightOf (S_X3_heightOf g (by first | assumption | (unfold InR; omega))) rfl rfl (by decide) (by decide) (gs0 hG) rfl rfl (Nat.le_of_ble_eq_true rfl) ?_
        refine wp_istore dX10_evenedAlongOneLine_96 (by decide) ?_
        refine wp_iload dX10_evenedAlongOneLine_98 rfl ?_
        refine wp_ineg dX10_evenedAlongOneLine_100 ?_
        refine wp_iload dX10_evenedAlongOneLine_101 rfl ?_
        refine wp_ifeq 112 dX10_evenedAlongOneLine_103 (by decide) (by unfold InR; omega) (fun c103 => ?_) (fun c103 => ?_)
        · refine wp_iload dX10_evenedAlongOneLine_112 rfl ?_
          refine wp_bipush dX10_evenedAlongOneLine_114 rfl ?_
          refine wp_isub dX10_evenedAlongOneLine_116 ?_
          refine wp_iadd dX10_evenedAlongOneLine_117 ?_
          refine wp_istore dX10_evenedAlongOneLine_118 (by decide) ?_
          refine wp_bipush dX10_evenedAlongOneLine_120 rfl ?_
          refine wp_iload dX10_evenedAlongOneLine_122 rfl ?_
          refine wp_isub dX10_evenedAlongOneLine_124 ?_
          refine wp_iload dX10_evenedAlongOneLine_125 rfl ?_
          refine wp_ifeq 138 dX10_evenedAlongOneLine_127 (by decide) (by unfold InR; omega) (fun c127 => ?_) (fun c127 => ?_)
          · refine wp_iload dX10_evenedAlongOneLine_138 rfl ?_
            refine wp_iadd dX10_evenedAlongOneLine_140 ?_
            refine wp_istore dX10_evenedAlongOneLine_141 (by decide) ?_
            refine wp_iload dX10_evenedAlongOneLine_143 rfl ?_
            refine wp_iload dX10_evenedAlongOneLine_145 rfl ?_
            refine wp_icmplt 161 dX10_evenedAlongOneLine_147 (by decide) (by unfold InR; omega) (by unfold InR; omega) (fun c147 => ?_) (fun c147 => ?_)
            · refine wp_iconst dX10_evenedAlongOneLine_161 ?_
              exact wp_zret dX10_evenedAlongOneLine_162 rfl (by omega) (⟨by
      first
        | (exfalso; omega)
        | exact vb1 (ob.mpr ⟨by omega, by omega, by first | (rw [if_pos (by omega)]; omega) | (rw [if_neg (by omega)]; omega)⟩)
        | exact vb0 (fun z => by
            have z3 := (ob.mp z).2.2
            first
              | (rw [if_pos (by omega)] at z3; omega)
              | (rw [if_neg (by omega)] at z3; omega)), rfl⟩)
            · refine wp_iload dX10_evenedAlongOneLine_150 rfl ?_
              refine wp_iload dX10_evenedAlongOneLine_152 rfl ?_
              refine wp_icmpgt 161 dX10_evenedAlongOneLine_154 (by decide) (by unfold InR; omega) (by unfold InR; omega) (fun c154 => ?_) (fun c154 => ?_)
              · refine wp_iconst dX10_evenedAlongOneLine_161 ?_
                exact wp_zret dX10_evenedAlongOneLine_162 rfl (by omega) (⟨by
      first
        | (exfalso; omega)
        | exact vb1 (ob.mpr ⟨by omega, by omega, by first | (rw [if_pos (by omega)]; omega) | (rw [if_neg (by omega)]; omega)⟩)
        | exact vb0 (fun z => by
            have z3 := (ob.mp z).2.2
            first
              | (rw [if_pos (by omega)] at z3; omega)
              | (rw [if_neg (by omega)] at z3; omega)), rfl⟩)
              · refine wp_iconst dX10_evenedAlongOneLine_157 ?_
                refine wp_goto 162 dX10_evenedAlongOneLine_158 (by decide) ?_
                exact wp_zret dX10_evenedAlongOneLine_162 rfl (by omega) (⟨by
      first
        | (exfalso; omega)
        | exact vb1 (ob.mpr ⟨by omega, by omega, by first | (rw [if_pos (by omega)]; omega) | (rw [if_neg (by omega)]; omega)⟩)
        | exact vb0 (fun z => by
            have z3 := (ob.mp z).2.2
            first
              | (rw [if_pos (by omega)] at z3; omega)
              | (rw [if_neg (by omega)] at z3; omega)), rfl⟩)
          · refine wp_bipush dX10_evenedAlongOneLine_130 rfl ?_
            refine wp_iload dX10_evenedAlongOneLine_132 rfl ?_
            refine wp_isub dX10_evenedAlongOneLine_134 ?_
            refine wp_goto 140 dX10_evenedAlongOneLine_135 (by decide) ?_
            refine wp_iadd dX10_evenedAlongOneLine_140 ?_
            refine wp_istore dX10_evenedAlongOneLine_141 (by decide) ?_
            refine wp_iload dX10_evenedAlongOneLine_143 rfl ?_
            refine wp_iload dX10_evenedAlongOneLine_145 rfl ?_
            refine wp_icmplt 161 dX10_evenedAlongOneLine_147 (by decide) (by unfold InR; omega) (by unfold InR; omega) (fun c147 => ?_) (fun c147 => ?_)
            · refine wp_iconst dX10_evenedAlongOneLine_161 ?_
              exact wp_zret dX10_evenedAlongOneLine_162 rfl (by omega) (⟨by
      first
        | (exfalso; omega)
        | exact vb1 (ob.mpr ⟨by omega, by omega, by first | (rw [if_pos (by omega)]; omega) | (rw [if_neg (by omega)]; omega)⟩)
        | exact vb0 (fun z => by
            have z3 := (ob.mp z).2.2
            first
              | (rw [if_pos (by omega)] at z3; omega)
              | (rw [if_neg (by omega)] at z3; omega)), rfl⟩)
            · refine wp_iload dX10_evenedAlongOneLine_150 rfl ?_
              refine wp_iload dX10_evenedAlongOneLine_152 rfl ?_
              refine wp_icmpgt 161 dX10_evenedAlongOneLine_154 (by decide) (by unfold InR; omega) (by unfold InR; omega) (fun c154 => ?_) (fun c154 => ?_)
              · refine wp_iconst dX10_evenedAlongOneLine_161 ?_
                exact wp_zret dX10_evenedAlongOneLine_162 rfl (by omega) (⟨by
      first
        | (exfalso; omega)
        | exact vb1 (ob.mpr ⟨by omega, by omega, by first | (rw [if_pos (by omega)]; omega) | (rw [if_neg (by omega)]; omega)⟩)
        | exact vb0 (fun z => by
            have z3 := (ob.mp z).2.2
            first
              | (rw [if_pos (by omega)] at z3; omega)
              | (rw [if_neg (by omega)] at z3; omega)), rfl⟩)
              · refine wp_iconst dX10_evenedAlongOneLine_157 ?_
                refine wp_goto 162 dX10_evenedAlongOneLine_158 (by decide) ?_
                exact wp_zret dX10_evenedAlongOneLine_162 rfl (by omega) (⟨by
      first
        | (exfalso; omega)
        | exact vb1 (ob.mpr ⟨by omega, by omega, by first | (rw [if_pos (by omega)]; omega) | (rw [if_neg (by omega)]; omega)⟩)
        | exact vb0 (fun z => by
            have z3 := (ob.mp z).2.2
            first
              | (rw [if_pos (by omega)] at z3; omega)
              | (rw [if_neg (by omega)] at z3; omega)), rfl⟩)
        · refine wp_iload dX10_evenedAlongOneLine_106 rfl ?_
          refine wp_ineg dX10_evenedAlongOneLine_108 ?_
          refine wp_goto 117 dX10_evenedAlongOneLine_109 (by decide) ?_
          refine wp_iadd dX10_evenedAlongOneLine_117 ?_
          refine wp_istore dX10_evenedAlongOneLine_118 (by decide) ?_
          refine wp_bipush dX10_evenedAlongOneLine_120 rfl ?_
          refine wp_iload dX10_evenedAlongOneLine_122 rfl ?_
          refine wp_isub dX10_evenedAlongOneLine_124 ?_
          refine wp_iload dX10_evenedAlongOneLine_125 rfl ?_
          refine wp_ifeq 138 dX10_evenedAlongOneLine_127 (by decide) (by unfold InR; omega) (fun c127 => ?_) (fun c127 => ?_)
          · refine wp_iload dX10_evenedAlongOneLine_138 rfl ?_
            refine wp_iadd dX10_evenedAlongOneLine_140 ?_
            refine wp_istore dX10_evenedAlongOneLine_141 (by decide) ?_
            refine wp_iload dX10_evenedAlongOneLine_143 rfl ?_
            refine wp_iload dX10_evenedAlongOneLine_145 rfl ?_
            refine wp_icmplt 161 dX10_evenedAlongOneLine_147 (by decide) (by unfold InR; omega) (by unfold InR; omega) (fun c147 => ?_) (fun c147 => ?_)
            · refine wp_iconst dX10_evenedAlongOneLine_161 ?_
              exact wp_zret dX10_evenedAlongOneLine_162 rfl (by omega) (⟨by
      first
        | (exfalso; omega)
        | exact vb1 (ob.mpr ⟨by omega, by omega, by first | (rw [if_pos (by omega)]; omega) | (rw [if_neg (by omega)]; omega)⟩)
        | exact vb0 (fun z => by
            have z3 := (ob.mp z).2.2
            first
              | (rw [if_pos (by omega)] at z3; omega)
              | (rw [if_neg (by omega)] at z3; omega)), rfl⟩)
            · refine wp_iload dX10_evenedAlongOneLine_150 rfl ?_
              refine wp_iload dX10_evenedAlongOneLine_152 rfl ?_
              refine wp_icmpgt 161 dX10_evenedAlongOneLine_154 (by decide) (by unfold InR; omega) (by unfold InR; omega) (fun c154 => ?_) (fun c154 => ?_)
              · refine wp_iconst dX10_evenedAlongOneLine_161 ?_
                exact wp_zret dX10_evenedAlongOneLine_162 rfl (by omega) (⟨by
      first
        | (exfalso; omega)
        | exact vb1 (ob.mpr ⟨by omega, by omega, by first | (rw [if_pos (by omega)]; omega) | (rw [if_neg (by omega)]; omega)⟩)
        | exact vb0 (fun z => by
            have z3 := (ob.mp z).2.2
            first
              | (rw [if_pos (by omega)] at z3; omega)
              | (rw [if_neg (by omega)] at z3; omega)), rfl⟩)
              · refine wp_iconst dX10_evenedAlongOneLine_157 ?_
                refine wp_goto 162 dX10_evenedAlongOneLine_158 (by decide) ?_
                exact wp_zret dX10_evenedAlongOneLine_162 rfl (by omega) (⟨by
      first
        | (exfalso; omega)
        | exact vb1 (ob.mpr ⟨by omega, by omega, by first | (rw [if_pos (by omega)]; omega) | (rw [if_neg (by omega)]; omega)⟩)
        | exact vb0 (fun z => by
            have z3 := (ob.mp z).2.2
            first
              | (rw [if_pos (by omega)] at z3; omega)
              | (rw [if_neg (by omega)] at z3; omega)), rfl⟩)
          · refine wp_bipush dX10_evenedAlongOneLine_130 rfl ?_
            refine wp_iload dX10_evenedAlongOneLine_132 rfl ?_
            refine wp_isub dX10_evenedAlongOneLine_134 ?_
            refine wp_goto 140 dX10_evenedAlongOneLine_135 (by decide) ?_
            refine wp_iadd dX10_evenedAlongOneLine_140 ?_
            refine wp_istore dX10_evenedAlongOneLine_141 (by decide) ?_
            refine wp_iload dX10_evenedAlongOneLine_143 rfl ?_
            refine wp_iload dX10_evenedAlongOneLine_145 rfl ?_
            refine wp_icmplt 161 dX10_evenedAlongOneLine_147 (by decide) (by unfold InR; omega) (by unfold InR; omega) (fun c147 => ?_) (fun c147 => ?_)
            · refine wp_iconst dX10_evenedAlongOneLine_161 ?_
              exact wp_zret dX10_evenedAlongOneLine_162 rfl (by omega) (⟨by
      first
        | (exfalso; omega)
        | exact vb1 (ob.mpr ⟨by omega, by omega, by first | (rw [if_pos (by omega)]; omega) | (rw [if_neg (by omega)]; omega)⟩)
        | exact vb0 (fun z => by
            have z3 := (ob.mp z).2.2
            first
              | (rw [if_pos (by omega)] at z3; omega)
              | (rw [if_neg (by omega)] at z3; omega)), rfl⟩)
            · refine wp_iload dX10_evenedAlongOneLine_150 rfl ?_
              refine wp_iload dX10_evenedAlongOneLine_152 rfl ?_
              refine wp_icmpgt 161 dX10_evenedAlongOneLine_154 (by decide) (by unfold InR; omega) (by unfold InR; omega) (fun c154 => ?_) (fun c154 => ?_)
              · refine wp_iconst dX10_evenedAlongOneLine_161 ?_
                exact wp_zret dX10_evenedAlongOneLine_162 rfl (by omega) (⟨by
      first
        | (exfalso; omega)
        | exact vb1 (ob.mpr ⟨by omega, by omega, by first | (rw [if_pos (by omega)]; omega) | (rw [if_neg (by omega)]; omega)⟩)
        | exact vb0 (fun z => by
            have z3 := (ob.mp z).2.2
            first
              | (rw [if_pos (by omega)] at z3; omega)
              | (rw [if_neg (by omega)] at z3; omega)), rfl⟩)
              · refine wp_iconst dX10_evenedAlongOneLine_157 ?_
                refine wp_goto 162 dX10_evenedAlongOneLine_158 (by decide) ?_
                exact wp_zret dX10_evenedAlongOneLine_162 rfl (by omega) (⟨by
      first
        | (exfalso; omega)
        | exact vb1 (ob.mpr ⟨by omega, by omega, by first | (rw [if_pos (by omega)]; omega) | (rw [if_neg (by omega)]; omega)⟩)
        | exact vb0 (fun z => by
            have z3 := (ob.mp z).2.2
            first
              | (rw [if_pos (by omega)] at z3; omega)
              | (rw [if_neg (by omega)] at z3; omega)), rfl⟩)
      · refine wp_aload_n dX10_evenedAlongOneLine_56 rfl ?_
        refine wp_getC dX10_evenedAlongOneLine_57 flX10_99 rfl rfl ?_
        refine wp_iload_n dX10_evenedAlongOneLine_60 rfl ?_
        refine wp_iald dX10_evenedAlongOneLine_61 (by first | rfl | exact gs1 hG | exact gs2 hG | exact gs3 hG | exact gs4 hG | exact ws1 hW | exact ws2 hW | assumption) (by omega) (by omega) ?_
        refine wp_aload_n dX10_evenedAlongOneLine_62 rfl ?_
        refine wp_getC dX10_evenedAlongOneLine_63 flX10_99 rfl rfl ?_
        refine wp_iload_n dX10_evenedAlongOneLine_66 rfl ?_
        refine wp_iald dX10_evenedAlongOneLine_67 (by first | rfl | exact gs1 hG | exact gs2 hG | exact gs3 hG | exact gs4 hG | exact ws1 hW | exact ws2 hW | assumption) (by omega) (by omega) ?_
        refine wp_icmpne 75 dX10_evenedAlongOneLine_68 (by decide) (by unfold InR; omega) (by unfold InR; omega) (fun c68 => ?_) (fun c68 => ?_)
        · refine wp_iconst dX10_evenedAlongOneLine_75 ?_
          refine wp_istore dX10_evenedAlongOneLine_76 (by decide) ?_
          refine wp_aload_n dX10_evenedAlongOneLine_78 rfl ?_
          refine wp_getM dX10_evenedAlongOneLine_79 flX10_46 rfl rfl ?_
          refine wp_iload_n dX10_evenedAlongOneLine_82 rfl ?_
          refine wp_callVp dX10_evenedAlongOneLine_83 mlX10_159 mvX3_heightOf (S_X3_heightOf g (by first | assumption | (unfold InR; omega))) rfl rfl (by decide) (by decide) (gs0 hG) rfl rfl (Nat.le_of_ble_eq_true rfl) ?_
          refine wp_istore dX10_evenedAlongOneLine_86 (by decide) ?_
          refine wp_aload_n dX10_evenedAlongOneLine_88 rfl ?_
          refine wp_getM dX10_evenedAlongOneLine_89 flX10_46 rfl rfl ?_
          refine wp_iload_n dX10_evenedAlongOneLine_92 rfl ?_
          refine wp_callVp dX10_evenedAlongOneLine_93 mlX10_159 mvX3_heightOf (S_X3_heightOf g (by first | assumption | (unfold InR; omega))) rfl rfl (by decide) (by decide) (gs0 hG) rfl rfl (Nat.le_of_ble_eq_true rfl) ?_
          refine wp_istore dX10_evenedAlongOneLine_96 (by decide) ?_
          refine wp_iload dX10_evenedAlongOneLine_98 rfl ?_
          refine wp_ineg dX10_evenedAlongOneLine_100 ?_
          refine wp_iload dX10_evenedAlongOneLine_101 rfl ?_
          refine wp_ifeq 112 dX10_evenedAlongOneLine_103 (by decide) (by unfold InR; omega) (fun c103 => ?_) (fun c103 => ?_)
          · refine wp_iload dX10_evenedAlongOneLine_112 rfl ?_
            refine wp_bipush dX10_evenedAlongOneLine_114 rfl ?_
            refine wp_isub dX10_evenedAlongOneLine_116 ?_
            refine wp_iadd dX10_evenedAlongOneLine_117 ?_
            refine wp_istore dX10_evenedAlongOneLine_118 (by decide) ?_
            refine wp_bipush dX10_evenedAlongOneLine_120 rfl ?_
            refine wp_iload dX10_evenedAlongOneLine_122 rfl ?_
            refine wp_isub dX10_evenedAlongOneLine_124 ?_
            refine wp_iload dX10_evenedAlongOneLine_125 rfl ?_
            refine wp_ifeq 138 dX10_evenedAlongOneLine_127 (by decide) (by unfold InR; omega) (fun c127 => ?_) (fun c127 => ?_)
            · refine wp_iload dX10_evenedAlongOneLine_138 rfl ?_
              refine wp_iadd dX10_evenedAlongOneLine_140 ?_
              refine wp_istore dX10_evenedAlongOneLine_141 (by decide) ?_
              refine wp_iload dX10_evenedAlongOneLine_143 rfl ?_
              refine wp_iload dX10_evenedAlongOneLine_145 rfl ?_
              refine wp_icmplt 161 dX10_evenedAlongOneLine_147 (by decide) (by unfold InR; omega) (by unfold InR; omega) (fun c147 => ?_) (fun c147 => ?_)
              · refine wp_iconst dX10_evenedAlongOneLine_161 ?_
                exact wp_zret dX10_evenedAlongOneLine_162 rfl (by omega) (⟨by
      first
        | (exfalso; omega)
        | exact vb1 (ob.mpr ⟨by omega, by omega, by first | (rw [if_pos (by omega)]; omega) | (rw [if_neg (by omega)]; omega)⟩)
        | exact vb0 (fun z => by
            have z3 := (ob.mp z).2.2
            first
              | (rw [if_pos (by omega)] at z3; omega)
              | (rw [if_neg (by omega)] at z3; omega)), rfl⟩)
              · refine wp_iload dX10_evenedAlongOneLine_150 rfl ?_
                refine wp_iload dX10_evenedAlongOneLine_152 rfl ?_
                refine wp_icmpgt 161 dX10_evenedAlongOneLine_154 (by decide) (by unfold InR; omega) (by unfold InR; omega) (fun c154 => ?_) (fun c154 => ?_)
                · refine wp_iconst dX10_evenedAlongOneLine_161 ?_
                  exact wp_zret dX10_evenedAlongOneLine_162 rfl (by omega) (⟨by
      first
        | (exfalso; omega)
        | exact vb1 (ob.mpr ⟨by omega, by omega, by first | (rw [if_pos (by omega)]; omega) | (rw [if_neg (by omega)]; omega)⟩)
        | exact vb0 (fun z => by
            have z3 := (ob.mp z).2.2
            first
              | (rw [if_pos (by omega)] at z3; omega)
              | (rw [if_neg (by omega)] at z3; omega)), rfl⟩)
                · refine wp_iconst dX10_evenedAlongOneLine_157 ?_
                  refine wp_goto 162 dX10_evenedAlongOneLine_158 (by decide) ?_
                  exact wp_zret dX10_evenedAlongOneLine_162 rfl (by omega) (⟨by
      first
        | (exfalso; omega)
        | exact vb1 (ob.mpr ⟨by omega, by omega, by first | (rw [if_pos (by omega)]; omega) | (rw [if_neg (by omega)]; omega)⟩)
        | exact vb0 (fun z => by
            have z3 := (ob.mp z).2.2
            first
              | (rw [if_pos (by omega)] at z3; omega)
              | (rw [if_neg (by omega)] at z3; omega)), rfl⟩)
            · refine wp_bipush dX10_evenedAlongOneLine_130 rfl ?_
              refine wp_iload dX10_evenedAlongOneLine_132 rfl ?_
              refine wp_isub dX10_evenedAlongOneLine_134 ?_
              refine wp_goto 140 dX10_evenedAlongOneLine_135 (by decide) ?_
              refine wp_iadd dX10_evenedAlongOneLine_140 ?_
              refine wp_istore dX10_evenedAlongOneLine_141 (by decide) ?_
              refine wp_iload dX10_evenedAlongOneLine_143 rfl ?_
              refine wp_iload dX10_evenedAlongOneLine_145 rfl ?_
              refine wp_icmplt 161 dX10_evenedAlongOneLine_147 (by decide) (by unfold InR; omega) (by unfold InR; omega) (fun c147 => ?_) (fun c147 => ?_)
              · refine wp_iconst dX10_evenedAlongOneLine_161 ?_
                exact wp_zret dX10_evenedAlongOneLine_162 rfl (by omega) (⟨by
      first
        | (exfalso; omega)
        | exact vb1 (ob.mpr ⟨by omega, by omega, by first | (rw [if_pos (by omega)]; omega) | (rw [if_neg (by omega)]; omega)⟩)
        | exact vb0 (fun z => by
            have z3 := (ob.mp z).2.2
            first
              | (rw [if_pos (by omega)] at z3; omega)
              | (rw [if_neg (by omega)] at z3; omega)), rfl⟩)
              · refine wp_iload dX10_evenedAlongOneLine_150 rfl ?_
                refine wp_iload dX10_evenedAlongOneLine_152 rfl ?_
                refine wp_icmpgt 161 dX10_evenedAlongOneLine_154 (by decide) (by unfold InR; omega) (by unfold InR; omega) (fun c154 => ?_) (fun c154 => ?_)
                · refine wp_iconst dX10_evenedAlongOneLine_161 ?_
                  exact wp_zret dX10_evenedAlongOneLine_162 rfl (by omega) (⟨by
      first
        | (exfalso; omega)
        | exact vb1 (ob.mpr ⟨by omega, by omega, by first | (rw [if_pos (by omega)]; omega) | (rw [if_neg (by omega)]; omega)⟩)
        | exact vb0 (fun z => by
            have z3 := (ob.mp z).2.2
            first
              | (rw [if_pos (by omega)] at z3; omega)
              | (rw [if_neg (by omega)] at z3; omega)), rfl⟩)
                · refine wp_iconst dX10_evenedAlongOneLine_157 ?_
                  refine wp_goto 162 dX10_evenedAlongOneLine_158 (by decide) ?_
                  exact wp_zret dX10_evenedAlongOneLine_162 rfl (by omega) (⟨by
      first
        | (exfalso; omega)
        | exact vb1 (ob.mpr ⟨by omega, by omega, by first | (rw [if_pos (by omega)]; omega) | (rw [if_neg (by omega)]; omega)⟩)
        | exact vb0 (fun z => by
            have z3 := (ob.mp z).2.2
            first
              | (rw [if_pos (by omega)] at z3; omega)
              | (rw [if_neg (by omega)] at z3; omega)), rfl⟩)
          · refine wp_iload dX10_evenedAlongOneLine_106 rfl ?_
            refine wp_ineg dX10_evenedAlongOneLine_108 ?_
            refine wp_goto 117 dX10_evenedAlongOneLine_109 (by decide) ?_
            refine wp_iadd dX10_evenedAlongOneLine_117 ?_
            refine wp_istore dX10_evenedAlongOneLine_118 (by decide) ?_
            refine wp_bipush dX10_evenedAlongOneLine_120 rfl ?_
            refine wp_iload dX10_evenedAlongOneLine_122 rfl ?_
            refine wp_isub dX10_evenedAlongOneLine_124 ?_
            refine wp_iload dX10_evenedAlongOneLine_125 rfl ?_
            refine wp_ifeq 138 dX10_evenedAlongOneLine_127 (by decide) (by unfold InR; omega) (fun c127 => ?_) (fun c127 => ?_)
            · refine wp_iload dX10_evenedAlongOneLine_138 rfl ?_
              refine wp_iadd dX10_evenedAlongOneLine_140 ?_
              refine wp_istore dX10_evenedAlongOneLine_141 (by decide) ?_
              refine wp_iload dX10_evenedAlongOneLine_143 rfl ?_
              refine wp_iload dX10_evenedAlongOneLine_145 rfl ?_
              refine wp_icmplt 161 dX10_evenedAlongOneLine_147 (by decide) (by unfold InR; omega) (by unfold InR; omega) (fun c147 => ?_) (fun c147 => ?_)
              · refine wp_iconst dX10_evenedAlongOneLine_161 ?_
                exact wp_zret dX10_evenedAlongOneLine_162 rfl (by omega) (⟨by
      first
        | (exfalso; omega)
        | exact vb1 (ob.mpr ⟨by omega, by omega, by first | (rw [if_pos (by omega)]; omega) | (rw [if_neg (by omega)]; omega)⟩)
        | exact vb0 (fun z => by
            have z3 := (ob.mp z).2.2
            first
              | (rw [if_pos (by omega)] at z3; omega)
              | (rw [if_neg (by omega)] at z3; omega)), rfl⟩)
              · refine wp_iload dX10_evenedAlongOneLine_150 rfl ?_
                refine wp_iload dX10_evenedAlongOneLine_152 rfl ?_
                refine wp_icmpgt 161 dX10_evenedAlongOneLine_154 (by decide) (by unfold InR; omega) (by unfold InR; omega) (fun c154 => ?_) (fun c154 => ?_)
                · refine wp_iconst dX10_evenedAlongOneLine_161 ?_
                  exact wp_zret dX10_evenedAlongOneLine_162 rfl (by omega) (⟨by
      first
        | (exfalso; omega)
        | exact vb1 (ob.mpr ⟨by omega, by omega, by first | (rw [if_pos (by omega)]; omega) | (rw [if_neg (by omega)]; omega)⟩)
        | exact vb0 (fun z => by
            have z3 := (ob.mp z).2.2
            first
              | (rw [if_pos (by omega)] at z3; omega)
              | (rw [if_neg (by omega)] at z3; omega)), rfl⟩)
                · refine wp_iconst dX10_evenedAlongOneLine_157 ?_
                  refine wp_goto 162 dX10_evenedAlongOneLine_158 (by decide) ?_
                  exact wp_zret dX10_evenedAlongOneLine_162 rfl (by omega) (⟨by
      first
        | (exfalso; omega)
        | exact vb1 (ob.mpr ⟨by omega, by omega, by first | (rw [if_pos (by omega)]; omega) | (rw [if_neg (by omega)]; omega)⟩)
        | exact vb0 (fun z => by
            have z3 := (ob.mp z).2.2
            first
              | (rw [if_pos (by omega)] at z3; omega)
              | (rw [if_neg (by omega)] at z3; omega)), rfl⟩)
            · refine wp_bipush dX10_evenedAlongOneLine_130 rfl ?_
              refine wp_iload dX10_evenedAlongOneLine_132 rfl ?_
              refine wp_isub dX10_evenedAlongOneLine_134 ?_
              refine wp_goto 140 dX10_evenedAlongOneLine_135 (by decide) ?_
              refine wp_iadd dX10_evenedAlongOneLine_140 ?_
              refine wp_istore dX10_evenedAlongOneLine_141 (by decide) ?_
              refine wp_iload dX10_evenedAlongOneLine_143 rfl ?_
              refine wp_iload dX10_evenedAlongOneLine_145 rfl ?_
              refine wp_icmplt 161 dX10_evenedAlongOneLine_147 (by decide) (by unfold InR; omega) (by unfold InR; omega) (fun c147 => ?_) (fun c147 => ?_)
              · refine wp_iconst dX10_evenedAlongOneLine_161 ?_
                exact wp_zret dX10_evenedAlongOneLine_162 rfl (by omega) (⟨by
      first
        | (exfalso; omega)
        | exact vb1 (ob.mpr ⟨by omega, by omega, by first | (rw [if_pos (by omega)]; omega) | (rw [if_neg (by omega)]; omega)⟩)
        | exact vb0 (fun z => by
            have z3 := (ob.mp z).2.2
            first
              | (rw [if_pos (by omega)] at z3; omega)
              | (rw [if_neg (by omega)] at z3; omega)), rfl⟩)
              · refine wp_iload dX10_evenedAlongOneLine_150 rfl ?_
                refine wp_iload dX10_evenedAlongOneLine_152 rfl ?_
                refine wp_icmpgt 161 dX10_evenedAlongOneLine_154 (by decide) (by unfold InR; omega) (by unfold InR; omega) (fun c154 => ?_) (fun c154 => ?_)
                · refine wp_iconst dX10_evenedAlongOneLine_161 ?_
                  exact wp_zret dX10_evenedAlongOneLine_162 rfl (by omega) (⟨by
      first
        | (exfalso; omega)
        | exact vb1 (ob.mpr ⟨by omega, by omega, by first | (rw [if_pos (by omega)]; omega) | (rw [if_neg (by omega)]; omega)⟩)
        | exact vb0 (fun z => by
            have z3 := (ob.mp z).2.2
            first
              | (rw [if_pos (by omega)] at z3; omega)
              | (rw [if_neg (by omega)] at z3; omega)), rfl⟩)
                · refine wp_iconst dX10_evenedAlongOneLine_157 ?_
                  refine wp_goto 162 dX10_evenedAlongOneLine_158 (by decide) ?_
                  exact wp_zret dX10_evenedAlongOneLine_162 rfl (by omega) (⟨by
      first
        | (exfalso; omega)
        | exact vb1 (ob.mpr ⟨by omega, by omega, by first | (rw [if_pos (by omega)]; omega) | (rw [if_neg (by omega)]; omega)⟩)
        | exact vb0 (fun z => by
            have z3 := (ob.mp z).2.2
            first
              | (rw [if_pos (by omega)] at z3; omega)
              | (rw [if_neg (by omega)] at z3; omega)), rfl⟩)
        · refine wp_iconst dX10_evenedAlongOneLine_71 ?_
          refine wp_goto 76 dX10_evenedAlongOneLine_72 (by decide) ?_
          refine wp_istore dX10_evenedAlongOneLine_76 (by decide) ?_
          refine wp_aload_n dX10_evenedAlongOneLine_78 rfl ?_
          refine wp_getM dX10_evenedAlongOneLine_79 flX10_46 rfl rfl ?_
          refine wp_iload_n dX10_evenedAlongOneLine_82 rfl ?_
          refine wp_callVp dX10_evenedAlongOneLine_83 mlX10_159 mvX3_heightOf (S_X3_heightOf g (by first | assumption | (unfold InR; omega))) rfl rfl (by decide) (by decide) (gs0 hG) rfl rfl (Nat.le_of_ble_eq_true rfl) ?_
          refine wp_istore dX10_evenedAlongOneLine_86 (by decide) ?_
          refine wp_aload_n dX10_evenedAlongOneLine_88 rfl ?_
          refine wp_getM dX10_evenedAlongOneLine_89 flX10_46 rfl rfl ?_
          refine wp_iload_n dX10_evenedAlongOneLine_92 rfl ?_
          refine wp_callVp dX10_evenedAlongOneLine_93 mlX10_159 mvX3_heightOf (S_X3_heightOf g (by first | assumption | (unfold InR; omega))) rfl rfl (by decide) (by decide) (gs0 hG) rfl rfl (Nat.le_of_ble_eq_true rfl) ?_
          refine wp_istore dX10_evenedAlongOneLine_96 (by decide) ?_
          refine wp_iload dX10_evenedAlongOneLine_98 rfl ?_
          refine wp_ineg dX10_evenedAlongOneLine_100 ?_
          refine wp_iload dX10_evenedAlongOneLine_101 rfl ?_
          refine wp_ifeq 112 dX10_evenedAlongOneLine_103 (by decide) (by unfold InR; omega) (fun c103 => ?_) (fun c103 => ?_)
          · refine wp_iload dX10_evenedAlongOneLine_112 rfl ?_
            refine wp_bipush dX10_evenedAlongOneLine_114 rfl ?_
            refine wp_isub dX10_evenedAlongOneLine_116 ?_
            refine wp_iadd dX10_evenedAlongOneLine_117 ?_
            refine wp_istore dX10_evenedAlongOneLine_118 (by decide) ?_
            refine wp_bipush dX10_evenedAlongOneLine_120 rfl ?_
            refine wp_iload dX10_evenedAlongOneLine_122 rfl ?_
            refine wp_isub dX10_evenedAlongOneLine_124 ?_
            refine wp_iload dX10_evenedAlongOneLine_125 rfl ?_
            refine wp_ifeq 138 dX10_evenedAlongOneLine_127 (by decide) (by unfold InR; omega) (fun c127 => ?_) (fun c127 => ?_)
            · refine wp_iload dX10_evenedAlongOneLine_138 rfl ?_
              refine wp_iadd dX10_evenedAlongOneLine_140 ?_
              refine wp_istore dX10_evenedAlongOneLine_141 (by decide) ?_
              refine wp_iload dX10_evenedAlongOneLine_143 rfl ?_
              refine wp_iload dX10_evenedAlongOneLine_145 rfl ?_
              refine wp_icmplt 161 dX10_evenedAlongOneLine_147 (by decide) (by unfold InR; omega) (by unfold InR; omega) (fun c147 => ?_) (fun c147 => ?_)
              · refine wp_iconst dX10_evenedAlongOneLine_161 ?_
                exact wp_zret dX10_evenedAlongOneLine_162 rfl (by omega) (⟨by
      first
        | (exfalso; omega)
        | exact vb1 (ob.mpr ⟨by omega, by omega, by first | (rw [if_pos (by omega)]; omega) | (rw [if_neg (by omega)]; omega)⟩)
        | exact vb0 (fun z => by
            have z3 := (ob.mp z).2.2
            first
              | (rw [if_pos (by omega)] at z3; omega)
              | (rw [if_neg (by omega)] at z3; omega)), rfl⟩)
              · refine wp_iload dX10_evenedAlongOneLine_150 rfl ?_
                refine wp_iload dX10_evenedAlongOneLine_152 rfl ?_
                refine wp_icmpgt 161 dX10_evenedAlongOneLine_154 (by decide) (by unfold InR; omega) (by unfold InR; omega) (fun c154 => ?_) (fun c154 => ?_)
                · refine wp_iconst dX10_evenedAlongOneLine_161 ?_
                  exact wp_zret dX10_evenedAlongOneLine_162 rfl (by omega) (⟨by
      first
        | (exfalso; omega)
        | exact vb1 (ob.mpr ⟨by omega, by omega, by first | (rw [if_pos (by omega)]; omega) | (rw [if_neg (by omega)]; omega)⟩)
        | exact vb0 (fun z => by
            have z3 := (ob.mp z).2.2
            first
              | (rw [if_pos (by omega)] at z3; omega)
              | (rw [if_neg (by omega)] at z3; omega)), rfl⟩)
                · refine wp_iconst dX10_evenedAlongOneLine_157 ?_
                  refine wp_goto 162 dX10_evenedAlongOneLine_158 (by decide) ?_
                  exact wp_zret dX10_evenedAlongOneLine_162 rfl (by omega) (⟨by
      first
        | (exfalso; omega)
        | exact vb1 (ob.mpr ⟨by omega, by omega, by first | (rw [if_pos (by omega)]; omega) | (rw [if_neg (by omega)]; omega)⟩)
        | exact vb0 (fun z => by
            have z3 := (ob.mp z).2.2
            first
              | (rw [if_pos (by omega)] at z3; omega)
              | (rw [if_neg (by omega)] at z3; omega)), rfl⟩)
            · refine wp_bipush dX10_evenedAlongOneLine_130 rfl ?_
              refine wp_iload dX10_evenedAlongOneLine_132 rfl ?_
              refine wp_isub dX10_evenedAlongOneLine_134 ?_
              refine wp_goto 140 dX10_evenedAlongOneLine_135 (by decide) ?_
              refine wp_iadd dX10_evenedAlongOneLine_140 ?_
              refine wp_istore dX10_evenedAlongOneLine_141 (by decide) ?_
              refine wp_iload dX10_evenedAlongOneLine_143 rfl ?_
              refine wp_iload dX10_evenedAlongOneLine_145 rfl ?_
              refine wp_icmplt 161 dX10_evenedAlongOneLine_147 (by decide) (by unfold InR; omega) (by unfold InR; omega) (fun c147 => ?_) (fun c147 => ?_)
              · refine wp_iconst dX10_evenedAlongOneLine_161 ?_
                exact wp_zret dX10_evenedAlongOneLine_162 rfl (by omega) (⟨by
      first
        | (exfalso; omega)
        | exact vb1 (ob.mpr ⟨by omega, by omega, by first | (rw [if_pos (by omega)]; omega) | (rw [if_neg (by omega)]; omega)⟩)
        | exact vb0 (fun z => by
            have z3 := (ob.mp z).2.2
            first
              | (rw [if_pos (by omega)] at z3; omega)
              | (rw [if_neg (by omega)] at z3; omega)), rfl⟩)
              · refine wp_iload dX10_evenedAlongOneLine_150 rfl ?_
                refine wp_iload dX10_evenedAlongOneLine_152 rfl ?_
                refine wp_icmpgt 161 dX10_evenedAlongOneLine_154 (by decide) (by unfold InR; omega) (by unfold InR; omega) (fun c154 => ?_) (fun c154 => ?_)
                · refine wp_iconst dX10_evenedAlongOneLine_161 ?_
                  exact wp_zret dX10_evenedAlongOneLine_162 rfl (by omega) (⟨by
      first
        | (exfalso; omega)
        | exact vb1 (ob.mpr ⟨by omega, by omega, by first | (rw [if_pos (by omega)]; omega) | (rw [if_neg (by omega)]; omega)⟩)
        | exact vb0 (fun z => by
            have z3 := (ob.mp z).2.2
            first
              | (rw [if_pos (by omega)] at z3; omega)
              | (rw [if_neg (by omega)] at z3; omega)), rfl⟩)
                · refine wp_iconst dX10_evenedAlongOneLine_157 ?_
                  refine wp_goto 162 dX10_evenedAlongOneLine_158 (by decide) ?_
                  exact wp_zret dX10_evenedAlongOneLine_162 rfl (by omega) (⟨by
      first
        | (exfalso; omega)
        | exact vb1 (ob.mpr ⟨by omega, by omega, by first | (rw [if_pos (by omega)]; omega) | (rw [if_neg (by omega)]; omega)⟩)
        | exact vb0 (fun z => by
            have z3 := (ob.mp z).2.2
            first
              | (rw [if_pos (by omega)] at z3; omega)
              | (rw [if_neg (by omega)] at z3; omega)), rfl⟩)
          · refine wp_iload dX10_evenedAlongOneLine_106 rfl ?_
            refine wp_ineg dX10_evenedAlongOneLine_108 ?_
            refine wp_goto 117 dX10_evenedAlongOneLine_109 (by decide) ?_
            refine wp_iadd dX10_evenedAlongOneLine_117 ?_
            refine wp_istore dX10_evenedAlongOneLine_118 (by decide) ?_
            refine wp_bipush dX10_evenedAlongOneLine_120 rfl ?_
            refine wp_iload dX10_evenedAlongOneLine_122 rfl ?_
            refine wp_isub dX10_evenedAlongOneLine_124 ?_
            refine wp_iload dX10_evenedAlongOneLine_125 rfl ?_
            refine wp_ifeq 138 dX10_evenedAlongOneLine_127 (by decide) (by unfold InR; omega) (fun c127 => ?_) (fun c127 => ?_)
            · refine wp_iload dX10_evenedAlongOneLine_138 rfl ?_
              refine wp_iadd dX10_evenedAlongOneLine_140 ?_
              refine wp_istore dX10_evenedAlongOneLine_141 (by decide) ?_
              refine wp_iload dX10_evenedAlongOneLine_143 rfl ?_
              refine wp_iload dX10_evenedAlongOneLine_145 rfl ?_
              refine wp_icmplt 161 dX10_evenedAlongOneLine_147 (by decide) (by unfold InR; omega) (by unfold InR; omega) (fun c147 => ?_) (fun c147 => ?_)
              · refine wp_iconst dX10_evenedAlongOneLine_161 ?_
                exact wp_zret dX10_evenedAlongOneLine_162 rfl (by omega) (⟨by
      first
        | (exfalso; omega)
        | exact vb1 (ob.mpr ⟨by omega, by omega, by first | (rw [if_pos (by omega)]; omega) | (rw [if_neg (by omega)]; omega)⟩)
        | exact vb0 (fun z => by
            have z3 := (ob.mp z).2.2
            first
              | (rw [if_pos (by omega)] at z3; omega)
              | (rw [if_neg (by omega)] at z3; omega)), rfl⟩)
              · refine wp_iload dX10_evenedAlongOneLine_150 rfl ?_
                refine wp_iload dX10_evenedAlongOneLine_152 rfl ?_
                refine wp_icmpgt 161 dX10_evenedAlongOneLine_154 (by decide) (by unfold InR; omega) (by unfold InR; omega) (fun c154 => ?_) (fun c154 => ?_)
                · refine wp_iconst dX10_evenedAlongOneLine_161 ?_
                  exact wp_zret dX10_evenedAlongOneLine_162 rfl (by omega) (⟨by
      first
        | (exfalso; omega)
        | exact vb1 (ob.mpr ⟨by omega, by omega, by first | (rw [if_pos (by omega)]; omega) | (rw [if_neg (by omega)]; omega)⟩)
        | exact vb0 (fun z => by
            have z3 := (ob.mp z).2.2
            first
              | (rw [if_pos (by omega)] at z3; omega)
              | (rw [if_neg (by omega)] at z3; omega)), rfl⟩)
                · refine wp_iconst dX10_evenedAlongOneLine_157 ?_
                  refine wp_goto 162 dX10_evenedAlongOneLine_158 (by decide) ?_
                  exact wp_zret dX10_evenedAlongOneLine_162 rfl (by omega) (⟨by
      first
        | (exfalso; omega)
        | exact vb1 (ob.mpr ⟨by omega, by omega, by first | (rw [if_pos (by omega)]; omega) | (rw [if_neg (by omega)]; omega)⟩)
        | exact vb0 (fun z => by
            have z3 := (ob.mp z).2.2
            first
              | (rw [if_pos (by omega)] at z3; omega)
              | (rw [if_neg (by omega)] at z3; omega)), rfl⟩)
            · refine wp_bipush dX10_evenedAlongOneLine_130 rfl ?_
              refine wp_iload dX10_evenedAlongOneLine_132 rfl ?_
              refine wp_isub dX10_evenedAlongOneLine_134 ?_
              refine wp_goto 140 dX10_evenedAlongOneLine_135 (by decide) ?_
              refine wp_iadd dX10_evenedAlongOneLine_140 ?_
              refine wp_istore dX10_evenedAlongOneLine_141 (by decide) ?_
              refine wp_iload dX10_evenedAlongOneLine_143 rfl ?_
              refine wp_iload dX10_evenedAlongOneLine_145 rfl ?_
              refine wp_icmplt 161 dX10_evenedAlongOneLine_147 (by decide) (by unfold InR; omega) (by unfold InR; omega) (fun c147 => ?_) (fun c147 => ?_)
              · refine wp_iconst dX10_evenedAlongOneLine_161 ?_
                exact wp_zret dX10_evenedAlongOneLine_162 rfl (by omega) (⟨by
      first
        | (exfalso; omega)
        | exact vb1 (ob.mpr ⟨by omega, by omega, by first | (rw [if_pos (by omega)]; omega) | (rw [if_neg (by omega)]; omega)⟩)
        | exact vb0 (fun z => by
            have z3 := (ob.mp z).2.2
            first
              | (rw [if_pos (by omega)] at z3; omega)
              | (rw [if_neg (by omega)] at z3; omega)), rfl⟩)
              · refine wp_iload dX10_evenedAlongOneLine_150 rfl ?_
                refine wp_iload dX10_evenedAlongOneLine_152 rfl ?_
                refine wp_icmpgt 161 dX10_evenedAlongOneLine_154 (by decide) (by unfold InR; omega) (by unfold InR; omega) (fun c154 => ?_) (fun c154 => ?_)
                · refine wp_iconst dX10_evenedAlongOneLine_161 ?_
                  exact wp_zret dX10_evenedAlongOneLine_162 rfl (by omega) (⟨by
      first
        | (exfalso; omega)
        | exact vb1 (ob.mpr ⟨by omega, by omega, by first | (rw [if_pos (by omega)]; omega) | (rw [if_neg (by omega)]; omega)⟩)
        | exact vb0 (fun z => by
            have z3 := (ob.mp z).2.2
            first
              | (rw [if_pos (by omega)] at z3; omega)
              | (rw [if_neg (by omega)] at z3; omega)), rfl⟩)
                · refine wp_iconst dX10_evenedAlongOneLine_157 ?_
                  refine wp_goto 162 dX10_evenedAlongOneLine_158 (by decide) ?_
                  exact wp_zret dX10_evenedAlongOneLine_162 rfl (by omega) (⟨by
      first
        | (exfalso; omega)
        | exact vb1 (ob.mpr ⟨by omega, by omega, by first | (rw [if_pos (by omega)]; omega) | (rw [if_neg (by omega)]; omega)⟩)
        | exact vb0 (fun z => by
            have z3 := (ob.mp z).2.2
            first
              | (rw [if_pos (by omega)] at z3; omega)
              | (rw [if_neg (by omega)] at z3; omega)), rfl⟩)
    · refine wp_iconst dX10_evenedAlongOneLine_39 ?_
      exact wp_zret dX10_evenedAlongOneLine_40 rfl (by omega) (⟨vb0 (fun z => by have := ob.mp z; omega), rfl⟩)

set_option maxRecDepth 20000 in
theorem S_X10_evenedByTwo {X : Cx} {h : Hp} (g : GB h (hR h 0 6)) (sb : ∀ i : Nat, (i : Int) < hI h (hR h 0 6) 4 → (-1 ≤ hI h 45 i ∧ hI h 45 i ≤ 1) ∧ -1 ≤ hI h 46 i ∧ hI h 46 i ≤ 1) {q s a b : Int} (hq : 0 ≤ q ∧ q < hI h (hR h 0 6) 4) (ha : -400 ≤ a ∧ a ≤ 400) (hb : -400 ≤ b ∧ b ≤ 400) (hs : 0 ≤ s ∧ s < hI h (hR h 0 6) 4) : Spec X mX10_evenedByTwo 4 [.ref (adr X 0), .int (iI q), .int (iI s), .int (iI a), .int (iI b)] h (fun rv h' => rv = some (.int (iI (b2i (twB (hI h 45 q.toNat) (hI h 46 q.toNat) (hI h 45 s.toNat) (hI h 46 s.toNat) a b (htO h (hR h 0 6) q) (htO h (hR h 0 6) s) = true)))) ∧ h' = h) := by
  have hG := g.1
  have g1 := g.2.1
  have g2 := g.2.2.1
  have sq := sb q.toNat (by omega)
  have cb := chA_b (x := hI h 45 q.toNat) (y := hI h 46 q.toNat) sq.1 sq.2 ha hb
  have Hq := htO_b g q
  have ss := sb s.toNat (by omega)
  have Hs := htO_b g s
  have v1 := m1b (s := hI h 45 q.toNat) (x := hI h 46 s.toNat) (B := 1) sq.1 (by omega)
  have v2 := m1b (s := hI h 45 s.toNat) (x := hI h 46 q.toNat) (B := 1) ss.1 (by omega)
  have v3 := m1b (s := hI h 45 s.toNat) (x := b) (B := 400) ss.1 (by omega)
  have v4 := m1c (s := hI h 46 s.toNat) (x := a) (B := 400) ss.2 (by omega)
  have v5 := m1c (s := hI h 46 q.toNat) (x := a) (B := 400) sq.2 (by omega)
  have v6 := m1b (s := hI h 45 q.toNat) (x := b) (B := 400) sq.1 (by omega)
  have d1 := tdv_b (a := hI h 45 s.toNat * b - a * hI h 46 s.toNat) (b := hI h 45 q.toNat * hI h 46 s.toNat - hI h 45 s.toNat * hI h 46 q.toNat) (B := 800) (by omega)
  have d2 := tdv_b (a := a * hI h 46 q.toNat - hI h 45 q.toNat * b) (b := hI h 45 q.toNat * hI h 46 s.toNat - hI h 45 s.toNat * hI h 46 q.toNat) (B := 800) (by omega)
  have w1 := m1b (B := 800) sq.1 d1
  have w2 := m1b (B := 800) ss.1 d2
  have w3 := m1b (B := 800) sq.2 d1
  have w4 := m1b (B := 800) ss.2 d2
  refine spec_wp (Nat.le_of_ble_eq_true rfl) (by decide +kernel) ?_
  refine wp_loc [(0, .ref (adr X 0)), (1, .int (iI q)), (2, .int (iI s)), (3, .int (iI a)), (4, .int (iI b))] ⟨rfl, rfl, rfl, rfl, rfl, trivial⟩ ?_
  refine wp_aload_n dX10_evenedByTwo_0 rfl ?_
  refine wp_getC dX10_evenedByTwo_1 flX10_96 rfl rfl ?_
  refine wp_iload_n dX10_evenedByTwo_4 rfl ?_
  refine wp_iald dX10_evenedByTwo_5 (by first | rfl | exact gs1 hG | exact gs2 hG | exact gs3 hG | exact gs4 hG | exact ws1 hW | exact ws2 hW | assumption) (by omega) (by omega) ?_
  refine wp_ifne 18 dX10_evenedByTwo_6 (by decide) (by unfold InR; omega) (fun c6 => ?_) (fun c6 => ?_)
  · refine wp_aload_n dX10_evenedByTwo_18 rfl ?_
    refine wp_getC dX10_evenedByTwo_19 flX10_96 rfl rfl ?_
    refine wp_iload_n dX10_evenedByTwo_22 rfl ?_
    refine wp_iald dX10_evenedByTwo_23 (by first | rfl | exact gs1 hG | exact gs2 hG | exact gs3 hG | exact gs4 hG | exact ws1 hW | exact ws2 hW | assumption) (by omega) (by omega) ?_
    refine wp_ifne 40 dX10_evenedByTwo_24 (by decide) (by unfold InR; omega) (fun c24 => ?_) (fun c24 => ?_)
    · refine wp_iconst dX10_evenedByTwo_40 ?_
      refine wp_istore dX10_evenedByTwo_41 (by decide) ?_
      refine wp_iload dX10_evenedByTwo_43 rfl ?_
      refine wp_ifeq 50 dX10_evenedByTwo_45 (by decide) (by unfold InR; omega) (fun c45 => ?_) (fun c45 => ?_)
      · refine wp_aload_n dX10_evenedByTwo_50 rfl ?_
        refine wp_getC dX10_evenedByTwo_51 flX10_96 rfl rfl ?_
        refine wp_iload_n dX10_evenedByTwo_54 rfl ?_
        refine wp_iald dX10_evenedByTwo_55 (by first | rfl | exact gs1 hG | exact gs2 hG | exact gs3 hG | exact gs4 hG | exact ws1 hW | exact ws2 hW | assumption) (by omega) (by omega) ?_
        refine wp_aload_n dX10_evenedByTwo_56 rfl ?_
        refine wp_getC dX10_evenedByTwo_57 flX10_99 rfl rfl ?_
        refine wp_iload_n dX10_evenedByTwo_60 rfl ?_
        refine wp_iald dX10_evenedByTwo_61 (by first | rfl | exact gs1 hG | exact gs2 hG | exact gs3 hG | exact gs4 hG | exact ws1 hW | exact ws2 hW | assumption) (by omega) (by omega) ?_
        refine wp_imul dX10_evenedByTwo_62 ?_
        refine wp_aload_n dX10_evenedByTwo_63 rfl ?_
        refine wp_getC dX10_evenedByTwo_64 flX10_96 rfl rfl ?_
        refine wp_iload_n dX10_evenedByTwo_67 rfl ?_
        refine wp_iald dX10_evenedByTwo_68 (by first | rfl | exact gs1 hG | exact gs2 hG | exact gs3 hG | exact gs4 hG | exact ws1 hW | exact ws2 hW | assumption) (by omega) (by omega) ?_
        refine wp_aload_n dX10_evenedByTwo_69 rfl ?_
        refine wp_getC dX10_evenedByTwo_70 flX10_99 rfl rfl ?_
        refine wp_iload_n dX10_evenedByTwo_73 rfl ?_
        refine wp_iald dX10_evenedByTwo_74 (by first | rfl | exact gs1 hG | exact gs2 hG | exact gs3 hG | exact gs4 hG | exact ws1 hW | exact ws2 hW | assumption) (by omega) (by omega) ?_
        refine wp_imul dX10_evenedByTwo_75 ?_
        refine wp_isub dX10_evenedByTwo_76 ?_
        refine wp_istore dX10_evenedByTwo_77 (by decide) ?_
        refine wp_iload dX10_evenedByTwo_79 rfl ?_
        refine wp_ifne 94 dX10_evenedByTwo_81 (by decide) (by unfold InR; omega) (fun c81 => ?_) (fun c81 => ?_)
        · refine wp_aload_n dX10_evenedByTwo_94 rfl ?_
          refine wp_getC dX10_evenedByTwo_95 flX10_96 rfl rfl ?_
          refine wp_iload_n dX10_evenedByTwo_98 rfl ?_
          refine wp_iald dX10_evenedByTwo_99 (by first | rfl | exact gs1 hG | exact gs2 hG | exact gs3 hG | exact gs4 hG | exact ws1 hW | exact ws2 hW | assumption) (by omega) (by omega) ?_
          refine wp_iload dX10_evenedByTwo_100 rfl ?_
          refine wp_imul dX10_evenedByTwo_102 ?_
          refine wp_iload_n dX10_evenedByTwo_103 rfl ?_
          refine wp_aload_n dX10_evenedByTwo_104 rfl ?_
          refine wp_getC dX10_evenedByTwo_105 flX10_99 rfl rfl ?_
          refine wp_iload_n dX10_evenedByTwo_108 rfl ?_
          refine wp_iald dX10_evenedByTwo_109 (by first | rfl | exact gs1 hG | exact gs2 hG | exact gs3 hG | exact gs4 hG | exact ws1 hW | exact ws2 hW | assumption) (by omega) (by omega) ?_
          refine wp_imul dX10_evenedByTwo_110 ?_
          refine wp_isub dX10_evenedByTwo_111 ?_
          refine wp_iload dX10_evenedByTwo_112 rfl ?_
          refine wp_idiv dX10_evenedByTwo_114 (by unfold InR; omega) (by unfold InR; omega) (by omega) (by unfold InR; omega) ?_
          refine wp_istore dX10_evenedByTwo_115 (by decide) ?_
          refine wp_iload_n dX10_evenedByTwo_117 rfl ?_
          refine wp_aload_n dX10_evenedByTwo_118 rfl ?_
          refine wp_getC dX10_evenedByTwo_119 flX10_99 rfl rfl ?_
          refine wp_iload_n dX10_evenedByTwo_122 rfl ?_
          refine wp_iald dX10_evenedByTwo_123 (by first | rfl | exact gs1 hG | exact gs2 hG | exact gs3 hG | exact gs4 hG | exact ws1 hW | exact ws2 hW | assumption) (by omega) (by omega) ?_
          refine wp_imul dX10_evenedByTwo_124 ?_
          refine wp_aload_n dX10_evenedByTwo_125 rfl ?_
          refine wp_getC dX10_evenedByTwo_126 flX10_96 rfl rfl ?_
          refine wp_iload_n dX10_evenedByTwo_129 rfl ?_
          refine wp_iald dX10_evenedByTwo_130 (by first | rfl | exact gs1 hG | exact gs2 hG | exact gs3 hG | exact gs4 hG | exact ws1 hW | exact ws2 hW | assumption) (by omega) (by omega) ?_
          refine wp_iload dX10_evenedByTwo_131 rfl ?_
          refine wp_imul dX10_evenedByTwo_133 ?_
          refine wp_isub dX10_evenedByTwo_134 ?_
          refine wp_iload dX10_evenedByTwo_135 rfl ?_
          refine wp_idiv dX10_evenedByTwo_137 (by unfold InR; omega) (by unfold InR; omega) (by omega) (by unfold InR; omega) ?_
          refine wp_istore dX10_evenedByTwo_138 (by decide) ?_
          refine wp_aload_n dX10_evenedByTwo_140 rfl ?_
          refine wp_getC dX10_evenedByTwo_141 flX10_96 rfl rfl ?_
          refine wp_iload_n dX10_evenedByTwo_144 rfl ?_
          refine wp_iald dX10_evenedByTwo_145 (by first | rfl | exact gs1 hG | exact gs2 hG | exact gs3 hG | exact gs4 hG | exact ws1 hW | exact ws2 hW | assumption) (by omega) (by omega) ?_
          refine wp_iload dX10_evenedByTwo_146 rfl ?_
          refine wp_imul dX10_evenedByTwo_148 ?_
          refine wp_aload_n dX10_evenedByTwo_149 rfl ?_
          refine wp_getC dX10_evenedByTwo_150 flX10_96 rfl rfl ?_
          refine wp_iload_n dX10_evenedByTwo_153 rfl ?_
          refine wp_iald dX10_evenedByTwo_154 (by first | rfl | exact gs1 hG | exact gs2 hG | exact gs3 hG | exact gs4 hG | exact ws1 hW | exact ws2 hW | assumption) (by omega) (by omega) ?_
          refine wp_iload dX10_evenedByTwo_155 rfl ?_
          refine wp_imul dX10_evenedByTwo_157 ?_
          refine wp_iadd dX10_evenedByTwo_158 ?_
          refine wp_iload_n dX10_evenedByTwo_159 rfl ?_
          refine wp_ineg dX10_evenedByTwo_160 ?_
          refine wp_icmpne 227 dX10_evenedByTwo_161 (by decide) (by unfold InR; omega) (by unfold InR; omega) (fun c161 => ?_) (fun c161 => ?_)
          · refine wp_iconst dX10_evenedByTwo_227 ?_
            exact wp_zret dX10_evenedByTwo_228 rfl (by omega) (⟨by
      first
        | (exfalso; omega)
        | exact vb1 (by unfold twB; rw [if_neg (by omega), Bool.and_eq_true, decide_eq_true_iff, decide_eq_true_iff]; exact ⟨by omega, by omega, by omega, by omega, by omega⟩)
        | exact vb0 (fun z => by unfold twB at z; rw [if_neg (by omega), Bool.and_eq_true, decide_eq_true_iff, decide_eq_true_iff] at z; have z2 := z.2; omega), rfl⟩)
          · refine wp_aload_n dX10_evenedByTwo_164 rfl ?_
            refine wp_getC dX10_evenedByTwo_165 flX10_99 rfl rfl ?_
            refine wp_iload_n dX10_evenedByTwo_168 rfl ?_
            refine wp_iald dX10_evenedByTwo_169 (by first | rfl | exact gs1 hG | exact gs2 hG | exact gs3 hG | exact gs4 hG | exact ws1 hW | exact ws2 hW | assumption) (by omega) (by omega) ?_
            refine wp_iload dX10_evenedByTwo_170 rfl ?_
            refine wp_imul dX10_evenedByTwo_172 ?_
            refine wp_aload_n dX10_evenedByTwo_173 rfl ?_
            refine wp_getC dX10_evenedByTwo_174 flX10_99 rfl rfl ?_
            refine wp_iload_n dX10_evenedByTwo_177 rfl ?_
            refine wp_iald dX10_evenedByTwo_178 (by first | rfl | exact gs1 hG | exact gs2 hG | exact gs3 hG | exact gs4 hG | exact ws1 hW | exact ws2 hW | assumption) (by omega) (by omega) ?_
            refine wp_iload dX10_evenedByTwo_179 rfl ?_
            refine wp_imul dX10_evenedByTwo_181 ?_
            refine wp_iadd dX10_evenedByTwo_182 ?_
            refine wp_iload dX10_evenedByTwo_183 rfl ?_
            refine wp_ineg dX10_evenedByTwo_185 ?_
            refine wp_icmpne 227 dX10_evenedByTwo_186 (by decide) (by unfold InR; omega) (by unfold InR; omega) (fun c186 => ?_) (fun c186 => ?_)
            · refine wp_iconst dX10_evenedByTwo_227 ?_
              exact wp_zret dX10_evenedByTwo_228 rfl (by omega) (⟨by
      first
        | (exfalso; omega)
        | exact vb1 (by unfold twB; rw [if_neg (by omega), Bool.and_eq_true, decide_eq_true_iff, decide_eq_true_iff]; exact ⟨by omega, by omega, by omega, by omega, by omega⟩)
        | exact vb0 (fun z => by unfold twB at z; rw [if_neg (by omega), Bool.and_eq_true, decide_eq_true_iff, decide_eq_true_iff] at z; have z2 := z.2; omega), rfl⟩)
            · refine wp_aload_n dX10_evenedByTwo_189 rfl ?_
              refine wp_getM dX10_evenedByTwo_190 flX10_46 rfl rfl ?_
              refine wp_iload_n dX10_evenedByTwo_193 rfl ?_
              refine wp_callVp dX10_evenedByTwo_194 mlX10_159 mvX3_heightOf (S_X3_heightOf g (by first | assumption | (unfold InR; omega))) rfl rfl (by decide) (by decide) (gs0 hG) rfl rfl (Nat.le_of_ble_eq_true rfl) ?_
              refine wp_iload dX10_evenedByTwo_197 rfl ?_
              refine wp_iadd dX10_evenedByTwo_199 ?_
              refine wp_callSp dX10_evenedByTwo_200 mlX10_253 msX10_isTold (S_X10_isTold (by first | assumption | (unfold InR; omega))) rfl rfl (by decide) (by decide) (Nat.le_of_ble_eq_true rfl) ?_
              refine wp_ifeqb 227 dX10_evenedByTwo_203 (by decide) (fun c203 => ?_) (fun c203 => ?_)
              · refine wp_iconst dX10_evenedByTwo_227 ?_
                exact wp_zret dX10_evenedByTwo_228 rfl (by omega) (⟨by
      first
        | (exfalso; omega)
        | exact vb1 (by unfold twB; rw [if_neg (by omega), Bool.and_eq_true, decide_eq_true_iff, decide_eq_true_iff]; exact ⟨by omega, by omega, by omega, by omega, by omega⟩)
        | exact vb0 (fun z => by unfold twB at z; rw [if_neg (by omega), Bool.and_eq_true, decide_eq_true_iff, decide_eq_true_iff] at z; have z2 := z.2; omega), rfl⟩)
              · refine wp_aload_n dX10_evenedByTwo_206 rfl ?_
                refine wp_getM dX10_evenedByTwo_207 flX10_46 rfl rfl ?_
                refine wp_iload_n dX10_evenedByTwo_210 rfl ?_
                refine wp_callVp dX10_evenedByTwo_211 mlX10_159 mvX3_heightOf (S_X3_heightOf g (by first | assumption | (unfold InR; omega))) rfl rfl (by decide) (by decide) (gs0 hG) rfl rfl (Nat.le_of_ble_eq_true rfl) ?_
                refine wp_iload dX10_evenedByTwo_214 rfl ?_
                refine wp_iadd dX10_evenedByTwo_216 ?_
                refine wp_callSp dX10_evenedByTwo_217 mlX10_253 msX10_isTold (S_X10_isTold (by first | assumption | (unfold InR; omega))) rfl rfl (by decide) (by decide) (Nat.le_of_ble_eq_true rfl) ?_
                refine wp_ifeqb 227 dX10_evenedByTwo_220 (by decide) (fun c220 => ?_) (fun c220 => ?_)
                · refine wp_iconst dX10_evenedByTwo_227 ?_
                  exact wp_zret dX10_evenedByTwo_228 rfl (by omega) (⟨by
      first
        | (exfalso; omega)
        | exact vb1 (by unfold twB; rw [if_neg (by omega), Bool.and_eq_true, decide_eq_true_iff, decide_eq_true_iff]; exact ⟨by omega, by omega, by omega, by omega, by omega⟩)
        | exact vb0 (fun z => by unfold twB at z; rw [if_neg (by omega), Bool.and_eq_true, decide_eq_true_iff, decide_eq_true_iff] at z; have z2 := z.2; omega), rfl⟩)
                · refine wp_iconst dX10_evenedByTwo_223 ?_
                  refine wp_goto 228 dX10_evenedByTwo_224 (by decide) ?_
                  exact wp_zret dX10_evenedByTwo_228 rfl (by omega) (⟨by
      first
        | (exfalso; omega)
        | exact vb1 (by unfold twB; rw [if_neg (by omega), Bool.and_eq_true, decide_eq_true_iff, decide_eq_true_iff]; exact ⟨by omega, by omega, by omega, by omega, by omega⟩)
        | exact vb0 (fun z => by unfold twB at z; rw [if_neg (by omega), Bool.and_eq_true, decide_eq_true_iff, decide_eq_true_iff] at z; have z2 := z.2; omega), rfl⟩)
        · refine wp_aload_n dX10_evenedByTwo_84 rfl ?_
          refine wp_iload_n dX10_evenedByTwo_85 rfl ?_
          refine wp_iload_n dX10_evenedByTwo_86 rfl ?_
          refine wp_iload_n dX10_evenedByTwo_87 rfl ?_
          refine wp_iload dX10_evenedByTwo_88 rfl ?_
          refine wp_callVp dX10_evenedByTwo_90 mlX10_274 mvX10_evenedAlongOneLine (S_X10_evenedAlongOneLine g sb hq ha hb hs) rfl rfl (by decide) (by decide) rfl rfl rfl (Nat.le_of_ble_eq_true rfl) ?_
          exact wp_zret dX10_evenedByTwo_93 rfl b2i_z (⟨vi (b2i_congr (by unfold twB; rw [if_pos (by omega), decide_eq_true (by omega), Bool.true_and])), rfl⟩)
      · refine wp_iconst dX10_evenedByTwo_48 ?_
        exact wp_zret dX10_evenedByTwo_49 rfl (by omega) (⟨vb0 (fun z => by unfold twB at z; rw [Bool.and_eq_true, decide_eq_true_iff] at z; have := z.1; omega), rfl⟩)
    · refine wp_aload_n dX10_evenedByTwo_27 rfl ?_
      refine wp_getC dX10_evenedByTwo_28 flX10_99 rfl rfl ?_
      refine wp_iload_n dX10_evenedByTwo_31 rfl ?_
      refine wp_iald dX10_evenedByTwo_32 (by first | rfl | exact gs1 hG | exact gs2 hG | exact gs3 hG | exact gs4 hG | exact ws1 hW | exact ws2 hW | assumption) (by omega) (by omega) ?_
      refine wp_ifne 40 dX10_evenedByTwo_33 (by decide) (by unfold InR; omega) (fun c33 => ?_) (fun c33 => ?_)
      · refine wp_iconst dX10_evenedByTwo_40 ?_
        refine wp_istore dX10_evenedByTwo_41 (by decide) ?_
        refine wp_iload dX10_evenedByTwo_43 rfl ?_
        refine wp_ifeq 50 dX10_evenedByTwo_45 (by decide) (by unfold InR; omega) (fun c45 => ?_) (fun c45 => ?_)
        · refine wp_aload_n dX10_evenedByTwo_50 rfl ?_
          refine wp_getC dX10_evenedByTwo_51 flX10_96 rfl rfl ?_
          refine wp_iload_n dX10_evenedByTwo_54 rfl ?_
          refine wp_iald dX10_evenedByTwo_55 (by first | rfl | exact gs1 hG | exact gs2 hG | exact gs3 hG | exact gs4 hG | exact ws1 hW | exact ws2 hW | assumption) (by omega) (by omega) ?_
          refine wp_aload_n dX10_evenedByTwo_56 rfl ?_
          refine wp_getC dX10_evenedByTwo_57 flX10_99 rfl rfl ?_
          refine wp_iload_n dX10_evenedByTwo_60 rfl ?_
          refine wp_iald dX10_evenedByTwo_61 (by first | rfl | exact gs1 hG | exact gs2 hG | exact gs3 hG | exact gs4 hG | exact ws1 hW | exact ws2 hW | assumption) (by omega) (by omega) ?_
          refine wp_imul dX10_evenedByTwo_62 ?_
          refine wp_aload_n dX10_evenedByTwo_63 rfl ?_
          refine wp_getC dX10_evenedByTwo_64 flX10_96 rfl rfl ?_
          refine wp_iload_n dX10_evenedByTwo_67 rfl ?_
          refine wp_iald dX10_evenedByTwo_68 (by first | rfl | exact gs1 hG | exact gs2 hG | exact gs3 hG | exact gs4 hG | exact ws1 hW | exact ws2 hW | assumption) (by omega) (by omega) ?_
          refine wp_aload_n dX10_evenedByTwo_69 rfl ?_
          refine wp_getC dX10_evenedByTwo_70 flX10_99 rfl rfl ?_
          refine wp_iload_n dX10_evenedByTwo_73 rfl ?_
          refine wp_iald dX10_evenedByTwo_74 (by first | rfl | exact gs1 hG | exact gs2 hG | exact gs3 hG | exact gs4 hG | exact ws1 hW | exact ws2 hW | assumption) (by omega) (by omega) ?_
          refine wp_imul dX10_evenedByTwo_75 ?_
          refine wp_isub dX10_evenedByTwo_76 ?_
          refine wp_istore dX10_evenedByTwo_77 (by decide) ?_
          refine wp_iload dX10_evenedByTwo_79 rfl ?_
          refine wp_ifne 94 dX10_evenedByTwo_81 (by decide) (by unfold InR; omega) (fun c81 => ?_) (fun c81 => ?_)
          · refine wp_aload_n dX10_evenedByTwo_94 rfl ?_
            refine wp_getC dX10_evenedByTwo_95 flX10_96 rfl rfl ?_
            refine wp_iload_n dX10_evenedByTwo_98 rfl ?_
            refine wp_iald dX10_evenedByTwo_99 (by first | rfl | exact gs1 hG | exact gs2 hG | exact gs3 hG | exact gs4 hG | exact ws1 hW | exact ws2 hW | assumption) (by omega) (by omega) ?_
            refine wp_iload dX10_evenedByTwo_100 rfl ?_
            refine wp_imul dX10_evenedByTwo_102 ?_
            refine wp_iload_n dX10_evenedByTwo_103 rfl ?_
            refine wp_aload_n dX10_evenedByTwo_104 rfl ?_
            refine wp_getC dX10_evenedByTwo_105 flX10_99 rfl rfl ?_
            refine wp_iload_n dX10_evenedByTwo_108 rfl ?_
            refine wp_iald dX10_evenedByTwo_109 (by first | rfl | exact gs1 hG | exact gs2 hG | exact gs3 hG | exact gs4 hG | exact ws1 hW | exact ws2 hW | assumption) (by omega) (by omega) ?_
            refine wp_imul dX10_evenedByTwo_110 ?_
            refine wp_isub dX10_evenedByTwo_111 ?_
            refine wp_iload dX10_evenedByTwo_112 rfl ?_
            refine wp_idiv dX10_evenedByTwo_114 (by unfold InR; omega) (by unfold InR; omega) (by omega) (by unfold InR; omega) ?_
            refine wp_istore dX10_evenedByTwo_115 (by decide) ?_
            refine wp_iload_n dX10_evenedByTwo_117 rfl ?_
            refine wp_aload_n dX10_evenedByTwo_118 rfl ?_
            refine wp_getC dX10_evenedByTwo_119 flX10_99 rfl rfl ?_
            refine wp_iload_n dX10_evenedByTwo_122 rfl ?_
            refine wp_iald dX10_evenedByTwo_123 (by first | rfl | exact gs1 hG | exact gs2 hG | exact gs3 hG | exact gs4 hG | exact ws1 hW | exact ws2 hW | assumption) (by omega) (by omega) ?_
            refine wp_imul dX10_evenedByTwo_124 ?_
            refine wp_aload_n dX10_evenedByTwo_125 rfl ?_
            refine wp_getC dX10_evenedByTwo_126 flX10_96 rfl rfl ?_
            refine wp_iload_n dX10_evenedByTwo_129 rfl ?_
            refine wp_iald dX10_evenedByTwo_130 (by first | rfl | exact gs1 hG | exact gs2 hG | exact gs3 hG | exact gs4 hG | exact ws1 hW | exact ws2 hW | assumption) (by omega) (by omega) ?_
            refine wp_iload dX10_evenedByTwo_131 rfl ?_
            refine wp_imul dX10_evenedByTwo_133 ?_
            refine wp_isub dX10_evenedByTwo_134 ?_
            refine wp_iload dX10_evenedByTwo_135 rfl ?_
            refine wp_idiv dX10_evenedByTwo_137 (by unfold InR; omega) (by unfold InR; omega) (by omega) (by unfold InR; omega) ?_
            refine wp_istore dX10_evenedByTwo_138 (by decide) ?_
            refine wp_aload_n dX10_evenedByTwo_140 rfl ?_
            refine wp_getC dX10_evenedByTwo_141 flX10_96 rfl rfl ?_
            refine wp_iload_n dX10_evenedByTwo_144 rfl ?_
            refine wp_iald dX10_evenedByTwo_145 (by first | rfl | exact gs1 hG | exact gs2 hG | exact gs3 hG | exact gs4 hG | exact ws1 hW | exact ws2 hW | assumption) (by omega) (by omega) ?_
            refine wp_iload dX10_evenedByTwo_146 rfl ?_
            refine wp_imul dX10_evenedByTwo_148 ?_
            refine wp_aload_n dX10_evenedByTwo_149 rfl ?_
            refine wp_getC dX10_evenedByTwo_150 flX10_96 rfl rfl ?_
            refine wp_iload_n dX10_evenedByTwo_153 rfl ?_
            refine wp_iald dX10_evenedByTwo_154 (by first | rfl | exact gs1 hG | exact gs2 hG | exact gs3 hG | exact gs4 hG | exact ws1 hW | exact ws2 hW | assumption) (by omega) (by omega) ?_
            refine wp_iload dX10_evenedByTwo_155 rfl ?_
            refine wp_imul dX10_evenedByTwo_157 ?_
            refine wp_iadd dX10_evenedByTwo_158 ?_
            refine wp_iload_n dX10_evenedByTwo_159 rfl ?_
            refine wp_ineg dX10_evenedByTwo_160 ?_
            refine wp_icmpne 227 dX10_evenedByTwo_161 (by decide) (by unfold InR; omega) (by unfold InR; omega) (fun c161 => ?_) (fun c161 => ?_)
            · refine wp_iconst dX10_evenedByTwo_227 ?_
              exact wp_zret dX10_evenedByTwo_228 rfl (by omega) (⟨by
      first
        | (exfalso; omega)
        | exact vb1 (by unfold twB; rw [if_neg (by omega), Bool.and_eq_true, decide_eq_true_iff, decide_eq_true_iff]; exact ⟨by omega, by omega, by omega, by omega, by omega⟩)
        | exact vb0 (fun z => by unfold twB at z; rw [if_neg (by omega), Bool.and_eq_true, decide_eq_true_iff, decide_eq_true_iff] at z; have z2 := z.2; omega), rfl⟩)
            · refine wp_aload_n dX10_evenedByTwo_164 rfl ?_
              refine wp_getC dX10_evenedByTwo_165 flX10_99 rfl rfl ?_
              refine wp_iload_n dX10_evenedByTwo_168 rfl ?_
              refine wp_iald dX10_evenedByTwo_169 (by first | rfl | exact gs1 hG | exact gs2 hG | exact gs3 hG | exact gs4 hG | exact ws1 hW | exact ws2 hW | assumption) (by omega) (by omega) ?_
              refine wp_iload dX10_evenedByTwo_170 rfl ?_
              refine wp_imul dX10_evenedByTwo_172 ?_
              refine wp_aload_n dX10_evenedByTwo_173 rfl ?_
              refine wp_getC dX10_evenedByTwo_174 flX10_99 rfl rfl ?_
              refine wp_iload_n dX10_evenedByTwo_177 rfl ?_
              refine wp_iald dX10_evenedByTwo_178 (by first | rfl | exact gs1 hG | exact gs2 hG | exact gs3 hG | exact gs4 hG | exact ws1 hW | exact ws2 hW | assumption) (by omega) (by omega) ?_
              refine wp_iload dX10_evenedByTwo_179 rfl ?_
              refine wp_imul dX10_evenedByTwo_181 ?_
              refine wp_iadd dX10_evenedByTwo_182 ?_
              refine wp_iload dX10_evenedByTwo_183 rfl ?_
              refine wp_ineg dX10_evenedByTwo_185 ?_
              refine wp_icmpne 227 dX10_evenedByTwo_186 (by decide) (by unfold InR; omega) (by unfold InR; omega) (fun c186 => ?_) (fun c186 => ?_)
              · refine wp_iconst dX10_evenedByTwo_227 ?_
                exact wp_zret dX10_evenedByTwo_228 rfl (by omega) (⟨by
      first
        | (exfalso; omega)
        | exact vb1 (by unfold twB; rw [if_neg (by omega), Bool.and_eq_true, decide_eq_true_iff, decide_eq_true_iff]; exact ⟨by omega, by omega, by omega, by omega, by omega⟩)
        | exact vb0 (fun z => by unfold twB at z; rw [if_neg (by omega), Bool.and_eq_true, decide_eq_true_iff, decide_eq_true_iff] at z; have z2 := z.2; omega), rfl⟩)
              · refine wp_aload_n dX10_evenedByTwo_189 rfl ?_
                refine wp_getM dX10_evenedByTwo_190 flX10_46 rfl rfl ?_
                refine wp_iload_n dX10_evenedByTwo_193 rfl ?_
                refine wp_callVp dX10_evenedByTwo_194 mlX10_159 mvX3_heightOf (S_X3_heightOf g (by first | assumption | (unfold InR; omega))) rfl rfl (by decide) (by decide) (gs0 hG) rfl rfl (Nat.le_of_ble_eq_true rfl) ?_
                refine wp_iload dX10_evenedByTwo_197 rfl ?_
                refine wp_iadd dX10_evenedByTwo_199 ?_
                refine wp_callSp dX10_evenedByTwo_200 mlX10_253 msX10_isTold (S_X10_isTold (by first | assumption | (unfold InR; omega))) rfl rfl (by decide) (by decide) (Nat.le_of_ble_eq_true rfl) ?_
                refine wp_ifeqb 227 dX10_evenedByTwo_203 (by decide) (fun c203 => ?_) (fun c203 => ?_)
                · refine wp_iconst dX10_evenedByTwo_227 ?_
                  exact wp_zret dX10_evenedByTwo_228 rfl (by omega) (⟨by
      first
        | (exfalso; omega)
        | exact vb1 (by unfold twB; rw [if_neg (by omega), Bool.and_eq_true, decide_eq_true_iff, decide_eq_true_iff]; exact ⟨by omega, by omega, by omega, by omega, by omega⟩)
        | exact vb0 (fun z => by unfold twB at z; rw [if_neg (by omega), Bool.and_eq_true, decide_eq_true_iff, decide_eq_true_iff] at z; have z2 := z.2; omega), rfl⟩)
                · refine wp_aload_n dX10_evenedByTwo_206 rfl ?_
                  refine wp_getM dX10_evenedByTwo_207 flX10_46 rfl rfl ?_
                  refine wp_iload_n dX10_evenedByTwo_210 rfl ?_
                  refine wp_callVp dX10_evenedByTwo_211 mlX10_159 mvX3_heightOf (S_X3_heightOf g (by first | assumption | (unfold InR; omega))) rfl rfl (by decide) (by decide) (gs0 hG) rfl rfl (Nat.le_of_ble_eq_true rfl) ?_
                  refine wp_iload dX10_evenedByTwo_214 rfl ?_
                  refine wp_iadd dX10_evenedByTwo_216 ?_
                  refine wp_callSp dX10_evenedByTwo_217 mlX10_253 msX10_isTold (S_X10_isTold (by first | assumption | (unfold InR; omega))) rfl rfl (by decide) (by decide) (Nat.le_of_ble_eq_true rfl) ?_
                  refine wp_ifeqb 227 dX10_evenedByTwo_220 (by decide) (fun c220 => ?_) (fun c220 => ?_)
                  · refine wp_iconst dX10_evenedByTwo_227 ?_
                    exact wp_zret dX10_evenedByTwo_228 rfl (by omega) (⟨by
      first
        | (exfalso; omega)
        | exact vb1 (by unfold twB; rw [if_neg (by omega), Bool.and_eq_true, decide_eq_true_iff, decide_eq_true_iff]; exact ⟨by omega, by omega, by omega, by omega, by omega⟩)
        | exact vb0 (fun z => by unfold twB at z; rw [if_neg (by omega), Bool.and_eq_true, decide_eq_true_iff, decide_eq_true_iff] at z; have z2 := z.2; omega), rfl⟩)
                  · refine wp_iconst dX10_evenedByTwo_223 ?_
                    refine wp_goto 228 dX10_evenedByTwo_224 (by decide) ?_
                    exact wp_zret dX10_evenedByTwo_228 rfl (by omega) (⟨by
      first
        | (exfalso; omega)
        | exact vb1 (by unfold twB; rw [if_neg (by omega), Bool.and_eq_true, decide_eq_true_iff, decide_eq_true_iff]; exact ⟨by omega, by omega, by omega, by omega, by omega⟩)
        | exact vb0 (fun z => by unfold twB at z; rw [if_neg (by omega), Bool.and_eq_true, decide_eq_true_iff, decide_eq_true_iff] at z; have z2 := z.2; omega), rfl⟩)
          · refine wp_aload_n dX10_evenedByTwo_84 rfl ?_
            refine wp_iload_n dX10_evenedByTwo_85 rfl ?_
            refine wp_iload_n dX10_evenedByTwo_86 rfl ?_
            refine wp_iload_n dX10_evenedByTwo_87 rfl ?_
            refine wp_iload dX10_evenedByTwo_88 rfl ?_
            refine wp_callVp dX10_evenedByTwo_90 mlX10_274 mvX10_evenedAlongOneLine (S_X10_evenedAlongOneLine g sb hq ha hb hs) rfl rfl (by decide) (by decide) rfl rfl rfl (Nat.le_of_ble_eq_true rfl) ?_
            exact wp_zret dX10_evenedByTwo_93 rfl b2i_z (⟨vi (b2i_congr (by unfold twB; rw [if_pos (by omega), decide_eq_true (by omega), Bool.true_and])), rfl⟩)
        · refine wp_iconst dX10_evenedByTwo_48 ?_
          exact wp_zret dX10_evenedByTwo_49 rfl (by omega) (⟨vb0 (fun z => by unfold twB at z; rw [Bool.and_eq_true, decide_eq_true_iff] at z; have := z.1; omega), rfl⟩)
      · refine wp_iconst dX10_evenedByTwo_36 ?_
        refine wp_goto 41 dX10_evenedByTwo_37 (by decide) ?_
        refine wp_istore dX10_evenedByTwo_41 (by decide) ?_
        refine wp_iload dX10_evenedByTwo_43 rfl ?_
        refine wp_ifeq 50 dX10_evenedByTwo_45 (by decide) (by unfold InR; omega) (fun c45 => ?_) (fun c45 => ?_)
        · refine wp_aload_n dX10_evenedByTwo_50 rfl ?_
          refine wp_getC dX10_evenedByTwo_51 flX10_96 rfl rfl ?_
          refine wp_iload_n dX10_evenedByTwo_54 rfl ?_
          refine wp_iald dX10_evenedByTwo_55 (by first | rfl | exact gs1 hG | exact gs2 hG | exact gs3 hG | exact gs4 hG | exact ws1 hW | exact ws2 hW | assumption) (by omega) (by omega) ?_
          refine wp_aload_n dX10_evenedByTwo_56 rfl ?_
          refine wp_getC dX10_evenedByTwo_57 flX10_99 rfl rfl ?_
          refine wp_iload_n dX10_evenedByTwo_60 rfl ?_
          refine wp_iald dX10_evenedByTwo_61 (by first | rfl | exact gs1 hG | exact gs2 hG | exact gs3 hG | exact gs4 hG | exact ws1 hW | exact ws2 hW | assumption) (by omega) (by omega) ?_
          refine wp_imul dX10_evenedByTwo_62 ?_
          refine wp_aload_n dX10_evenedByTwo_63 rfl ?_
          refine wp_getC dX10_evenedByTwo_64 flX10_96 rfl rfl ?_
          refine wp_iload_n dX10_evenedByTwo_67 rfl ?_
          refine wp_iald dX10_evenedByTwo_68 (by first | rfl | exact gs1 hG | exact gs2 hG | exact gs3 hG | exact gs4 hG | exact ws1 hW | exact ws2 hW | assumption) (by omega) (by omega) ?_
          refine wp_aload_n dX10_evenedByTwo_69 rfl ?_
          refine wp_getC dX10_evenedByTwo_70 flX10_99 rfl rfl ?_
          refine wp_iload_n dX10_evenedByTwo_73 rfl ?_
          refine wp_iald dX10_evenedByTwo_74 (by first | rfl | exact gs1 hG | exact gs2 hG | exact gs3 hG | exact gs4 hG | exact ws1 hW | exact ws2 hW | assumption) (by omega) (by omega) ?_
          refine wp_imul dX10_evenedByTwo_75 ?_
          refine wp_isub dX10_evenedByTwo_76 ?_
          refine wp_istore dX10_evenedByTwo_77 (by decide) ?_
          refine wp_iload dX10_evenedByTwo_79 rfl ?_
          refine wp_ifne 94 dX10_evenedByTwo_81 (by decide) (by unfold InR; omega) (fun c81 => ?_) (fun c81 => ?_)
          · refine wp_aload_n dX10_evenedByTwo_94 rfl ?_
            refine wp_getC dX10_evenedByTwo_95 flX10_96 rfl rfl ?_
            refine wp_iload_n dX10_evenedByTwo_98 rfl ?_
            refine wp_iald dX10_evenedByTwo_99 (by first | rfl | exact gs1 hG | exact gs2 hG | exact gs3 hG | exact gs4 hG | exact ws1 hW | exact ws2 hW | assumption) (by omega) (by omega) ?_
            refine wp_iload dX10_evenedByTwo_100 rfl ?_
            refine wp_imul dX10_evenedByTwo_102 ?_
            refine wp_iload_n dX10_evenedByTwo_103 rfl ?_
            refine wp_aload_n dX10_evenedByTwo_104 rfl ?_
            refine wp_getC dX10_evenedByTwo_105 flX10_99 rfl rfl ?_
            refine wp_iload_n dX10_evenedByTwo_108 rfl ?_
            refine wp_iald dX10_evenedByTwo_109 (by first | rfl | exact gs1 hG | exact gs2 hG | exact gs3 hG | exact gs4 hG | exact ws1 hW | exact ws2 hW | assumption) (by omega) (by omega) ?_
            refine wp_imul dX10_evenedByTwo_110 ?_
            refine wp_isub dX10_evenedByTwo_111 ?_
            refine wp_iload dX10_evenedByTwo_112 rfl ?_
            refine wp_idiv dX10_evenedByTwo_114 (by unfold InR; omega) (by unfold InR; omega) (by omega) (by unfold InR; omega) ?_
            refine wp_istore dX10_evenedByTwo_115 (by decide) ?_
            refine wp_iload_n dX10_evenedByTwo_117 rfl ?_
            refine wp_aload_n dX10_evenedByTwo_118 rfl ?_
            refine wp_getC dX10_evenedByTwo_119 flX10_99 rfl rfl ?_
            refine wp_iload_n dX10_evenedByTwo_122 rfl ?_
            refine wp_iald dX10_evenedByTwo_123 (by first | rfl | exact gs1 hG | exact gs2 hG | exact gs3 hG | exact gs4 hG | exact ws1 hW | exact ws2 hW | assumption) (by omega) (by omega) ?_
            refine wp_imul dX10_evenedByTwo_124 ?_
            refine wp_aload_n dX10_evenedByTwo_125 rfl ?_
            refine wp_getC dX10_evenedByTwo_126 flX10_96 rfl rfl ?_
            refine wp_iload_n dX10_evenedByTwo_129 rfl ?_
            refine wp_iald dX10_evenedByTwo_130 (by first | rfl | exact gs1 hG | exact gs2 hG | exact gs3 hG | exact gs4 hG | exact ws1 hW | exact ws2 hW | assumption) (by omega) (by omega) ?_
            refine wp_iload dX10_evenedByTwo_131 rfl ?_
            refine wp_imul dX10_evenedByTwo_133 ?_
            refine wp_isub dX10_evenedByTwo_134 ?_
            refine wp_iload dX10_evenedByTwo_135 rfl ?_
            refine wp_idiv dX10_evenedByTwo_137 (by unfold InR; omega) (by unfold InR; omega) (by omega) (by unfold InR; omega) ?_
            refine wp_istore dX10_evenedByTwo_138 (by decide) ?_
            refine wp_aload_n dX10_evenedByTwo_140 rfl ?_
            refine wp_getC dX10_evenedByTwo_141 flX10_96 rfl rfl ?_
            refine wp_iload_n dX10_evenedByTwo_144 rfl ?_
            refine wp_iald dX10_evenedByTwo_145 (by first | rfl | exact gs1 hG | exact gs2 hG | exact gs3 hG | exact gs4 hG | exact ws1 hW | exact ws2 hW | assumption) (by omega) (by omega) ?_
            refine wp_iload dX10_evenedByTwo_146 rfl ?_
            refine wp_imul dX10_evenedByTwo_148 ?_
            refine wp_aload_n dX10_evenedByTwo_149 rfl ?_
            refine wp_getC dX10_evenedByTwo_150 flX10_96 rfl rfl ?_
            refine wp_iload_n dX10_evenedByTwo_153 rfl ?_
            refine wp_iald dX10_evenedByTwo_154 (by first | rfl | exact gs1 hG | exact gs2 hG | exact gs3 hG | exact gs4 hG | exact ws1 hW | exact ws2 hW | assumption) (by omega) (by omega) ?_
            refine wp_iload dX10_evenedByTwo_155 rfl ?_
            refine wp_imul dX10_evenedByTwo_157 ?_
            refine wp_iadd dX10_evenedByTwo_158 ?_
            refine wp_iload_n dX10_evenedByTwo_159 rfl ?_
            refine wp_ineg dX10_evenedByTwo_160 ?_
            refine wp_icmpne 227 dX10_evenedByTwo_161 (by decide) (by unfold InR; omega) (by unfold InR; omega) (fun c161 => ?_) (fun c161 => ?_)
            · refine wp_iconst dX10_evenedByTwo_227 ?_
              exact wp_zret dX10_evenedByTwo_228 rfl (by omega) (⟨by
      first
        | (exfalso; omega)
        | exact vb1 (by unfold twB; rw [if_neg (by omega), Bool.and_eq_true, decide_eq_true_iff, decide_eq_true_iff]; exact ⟨by omega, by omega, by omega, by omega, by omega⟩)
        | exact vb0 (fun z => by unfold twB at z; rw [if_neg (by omega), Bool.and_eq_true, decide_eq_true_iff, decide_eq_true_iff] at z; have z2 := z.2; omega), rfl⟩)
            · refine wp_aload_n dX10_evenedByTwo_164 rfl ?_
              refine wp_getC dX10_evenedByTwo_165 flX10_99 rfl rfl ?_
              refine wp_iload_n dX10_evenedByTwo_168 rfl ?_
              refine wp_iald dX10_evenedByTwo_169 (by first | rfl | exact gs1 hG | exact gs2 hG | exact gs3 hG | exact gs4 hG | exact ws1 hW | exact ws2 hW | assumption) (by omega) (by omega) ?_
              refine wp_iload dX10_evenedByTwo_170 rfl ?_
              refine wp_imul dX10_evenedByTwo_172 ?_
              refine wp_aload_n dX10_evenedByTwo_173 rfl ?_
              refine wp_getC dX10_evenedByTwo_174 flX10_99 rfl rfl ?_
              refine wp_iload_n dX10_evenedByTwo_177 rfl ?_
              refine wp_iald dX10_evenedByTwo_178 (by first | rfl | exact gs1 hG | exact gs2 hG | exact gs3 hG | exact gs4 hG | exact ws1 hW | exact ws2 hW | assumption) (by omega) (by omega) ?_
              refine wp_iload dX10_evenedByTwo_179 rfl ?_
              refine wp_imul dX10_evenedByTwo_181 ?_
              refine wp_iadd dX10_evenedByTwo_182 ?_
              refine wp_iload dX10_evenedByTwo_183 rfl ?_
              refine wp_ineg dX10_evenedByTwo_185 ?_
              refine wp_icmpne 227 dX10_evenedByTwo_186 (by decide) (by unfold InR; omega) (by unfold InR; omega) (fun c186 => ?_) (fun c186 => ?_)
              · refine wp_iconst dX10_evenedByTwo_227 ?_
                exact wp_zret dX10_evenedByTwo_228 rfl (by omega) (⟨by
      first
        | (exfalso; omega)
        | exact vb1 (by unfold twB; rw [if_neg (by omega), Bool.and_eq_true, decide_eq_true_iff, decide_eq_true_iff]; exact ⟨by omega, by omega, by omega, by omega, by omega⟩)
        | exact vb0 (fun z => by unfold twB at z; rw [if_neg (by omega), Bool.and_eq_true, decide_eq_true_iff, decide_eq_true_iff] at z; have z2 := z.2; omega), rfl⟩)
              · refine wp_aload_n dX10_evenedByTwo_189 rfl ?_
                refine wp_getM dX10_evenedByTwo_190 flX10_46 rfl rfl ?_
                refine wp_iload_n dX10_evenedByTwo_193 rfl ?_
                refine wp_callVp dX10_evenedByTwo_194 mlX10_159 mvX3_heightOf (S_X3_heightOf g (by first | assumption | (unfold InR; omega))) rfl rfl (by decide) (by decide) (gs0 hG) rfl rfl (Nat.le_of_ble_eq_true rfl) ?_
                refine wp_iload dX10_evenedByTwo_197 rfl ?_
                refine wp_iadd dX10_evenedByTwo_199 ?_
                refine wp_callSp dX10_evenedByTwo_200 mlX10_253 msX10_isTold (S_X10_isTold (by first | assumption | (unfold InR; omega))) rfl rfl (by decide) (by decide) (Nat.le_of_ble_eq_true rfl) ?_
                refine wp_ifeqb 227 dX10_evenedByTwo_203 (by decide) (fun c203 => ?_) (fun c203 => ?_)
                · refine wp_iconst dX10_evenedByTwo_227 ?_
                  exact wp_zret dX10_evenedByTwo_228 rfl (by omega) (⟨by
      first
        | (exfalso; omega)
        | exact vb1 (by unfold twB; rw [if_neg (by omega), Bool.and_eq_true, decide_eq_true_iff, decide_eq_true_iff]; exact ⟨by omega, by omega, by omega, by omega, by omega⟩)
        | exact vb0 (fun z => by unfold twB at z; rw [if_neg (by omega), Bool.and_eq_true, decide_eq_true_iff, decide_eq_true_iff] at z; have z2 := z.2; omega), rfl⟩)
                · refine wp_aload_n dX10_evenedByTwo_206 rfl ?_
                  refine wp_getM dX10_evenedByTwo_207 flX10_46 rfl rfl ?_
                  refine wp_iload_n dX10_evenedByTwo_210 rfl ?_
                  refine wp_callVp dX10_evenedByTwo_211 mlX10_159 mvX3_heightOf (S_X3_heightOf g (by first | assumption | (unfold InR; omega))) rfl rfl (by decide) (by decide) (gs0 hG) rfl rfl (Nat.le_of_ble_eq_true rfl) ?_
                  refine wp_iload dX10_evenedByTwo_214 rfl ?_
                  refine wp_iadd dX10_evenedByTwo_216 ?_
                  refine wp_callSp dX10_evenedByTwo_217 mlX10_253 msX10_isTold (S_X10_isTold (by first | assumption | (unfold InR; omega))) rfl rfl (by decide) (by decide) (Nat.le_of_ble_eq_true rfl) ?_
                  refine wp_ifeqb 227 dX10_evenedByTwo_220 (by decide) (fun c220 => ?_) (fun c220 => ?_)
                  · refine wp_iconst dX10_evenedByTwo_227 ?_
                    exact wp_zret dX10_evenedByTwo_228 rfl (by omega) (⟨by
      first
        | (exfalso; omega)
        | exact vb1 (by unfold twB; rw [if_neg (by omega), Bool.and_eq_true, decide_eq_true_iff, decide_eq_true_iff]; exact ⟨by omega, by omega, by omega, by omega, by omega⟩)
        | exact vb0 (fun z => by unfold twB at z; rw [if_neg (by omega), Bool.and_eq_true, decide_eq_true_iff, decide_eq_true_iff] at z; have z2 := z.2; omega), rfl⟩)
                  · refine wp_iconst dX10_evenedByTwo_223 ?_
                    refine wp_goto 228 dX10_evenedByTwo_224 (by decide) ?_
                    exact wp_zret dX10_evenedByTwo_228 rfl (by omega) (⟨by
      first
        | (exfalso; omega)
        | exact vb1 (by unfold twB; rw [if_neg (by omega), Bool.and_eq_true, decide_eq_true_iff, decide_eq_true_iff]; exact ⟨by omega, by omega, by omega, by omega, by omega⟩)
        | exact vb0 (fun z => by unfold twB at z; rw [if_neg (by omega), Bool.and_eq_true, decide_eq_true_iff, decide_eq_true_iff] at z; have z2 := z.2; omega), rfl⟩)
          · refine wp_aload_n dX10_evenedByTwo_84 rfl ?_
            refine wp_iload_n dX10_evenedByTwo_85 rfl ?_
            refine wp_iload_n dX10_evenedByTwo_86 rfl ?_
            refine wp_iload_n dX10_evenedByTwo_87 rfl ?_
            refine wp_iload dX10_evenedByTwo_88 rfl ?_
            refine wp_callVp dX10_evenedByTwo_90 mlX10_274 mvX10_evenedAlongOneLine (S_X10_evenedAlongOneLine g sb hq ha hb hs) rfl rfl (by decide) (by decide) rfl rfl rfl (Nat.le_of_ble_eq_true rfl) ?_
            exact wp_zret dX10_evenedByTwo_93 rfl b2i_z (⟨vi (b2i_congr (by unfold twB; rw [if_pos (by omega), decide_eq_true (by omega), Bool.true_and])), rfl⟩)
        · refine wp_iconst dX10_evenedByTwo_48 ?_
          exact wp_zret dX10_evenedByTwo_49 rfl (by omega) (⟨vb0 (fun z => by unfold twB at z; rw [Bool.and_eq_true, decide_eq_true_iff] at z; have := z.1; omega), rfl⟩)
  · refine wp_aload_n dX10_evenedByTwo_9 rfl ?_
    refine wp_getC dX10_evenedByTwo_10 flX10_99 rfl rfl ?_
    refine wp_iload_n dX10_evenedByTwo_13 rfl ?_
    refine wp_iald dX10_evenedByTwo_14 (by first | rfl | exact gs1 hG | exact gs2 hG | exact gs3 hG | exact gs4 hG | exact ws1 hW | exact ws2 hW | assumption) (by omega) (by omega) ?_
    refine wp_ifeq 36 dX10_evenedByTwo_15 (by decide) (by unfold InR; omega) (fun c15 => ?_) (fun c15 => ?_)
    · refine wp_iconst dX10_evenedByTwo_36 ?_
      refine wp_goto 41 dX10_evenedByTwo_37 (by decide) ?_
      refine wp_istore dX10_evenedByTwo_41 (by decide) ?_
      refine wp_iload dX10_evenedByTwo_43 rfl ?_
      refine wp_ifeq 50 dX10_evenedByTwo_45 (by decide) (by unfold InR; omega) (fun c45 => ?_) (fun c45 => ?_)
      · refine wp_aload_n dX10_evenedByTwo_50 rfl ?_
        refine wp_getC dX10_evenedByTwo_51 flX10_96 rfl rfl ?_
        refine wp_iload_n dX10_evenedByTwo_54 rfl ?_
        refine wp_iald dX10_evenedByTwo_55 (by first | rfl | exact gs1 hG | exact gs2 hG | exact gs3 hG | exact gs4 hG | exact ws1 hW | exact ws2 hW | assumption) (by omega) (by omega) ?_
        refine wp_aload_n dX10_evenedByTwo_56 rfl ?_
        refine wp_getC dX10_evenedByTwo_57 flX10_99 rfl rfl ?_
        refine wp_iload_n dX10_evenedByTwo_60 rfl ?_
        refine wp_iald dX10_evenedByTwo_61 (by first | rfl | exact gs1 hG | exact gs2 hG | exact gs3 hG | exact gs4 hG | exact ws1 hW | exact ws2 hW | assumption) (by omega) (by omega) ?_
        refine wp_imul dX10_evenedByTwo_62 ?_
        refine wp_aload_n dX10_evenedByTwo_63 rfl ?_
        refine wp_getC dX10_evenedByTwo_64 flX10_96 rfl rfl ?_
        refine wp_iload_n dX10_evenedByTwo_67 rfl ?_
        refine wp_iald dX10_evenedByTwo_68 (by first | rfl | exact gs1 hG | exact gs2 hG | exact gs3 hG | exact gs4 hG | exact ws1 hW | exact ws2 hW | assumption) (by omega) (by omega) ?_
        refine wp_aload_n dX10_evenedByTwo_69 rfl ?_
        refine wp_getC dX10_evenedByTwo_70 flX10_99 rfl rfl ?_
        refine wp_iload_n dX10_evenedByTwo_73 rfl ?_
        refine wp_iald dX10_evenedByTwo_74 (by first | rfl | exact gs1 hG | exact gs2 hG | exact gs3 hG | exact gs4 hG | exact ws1 hW | exact ws2 hW | assumption) (by omega) (by omega) ?_
        refine wp_imul dX10_evenedByTwo_75 ?_
        refine wp_isub dX10_evenedByTwo_76 ?_
        refine wp_istore dX10_evenedByTwo_77 (by decide) ?_
        refine wp_iload dX10_evenedByTwo_79 rfl ?_
        refine wp_ifne 94 dX10_evenedByTwo_81 (by decide) (by unfold InR; omega) (fun c81 => ?_) (fun c81 => ?_)
        · refine wp_aload_n dX10_evenedByTwo_94 rfl ?_
          refine wp_getC dX10_evenedByTwo_95 flX10_96 rfl rfl ?_
          refine wp_iload_n dX10_evenedByTwo_98 rfl ?_
          refine wp_iald dX10_evenedByTwo_99 (by first | rfl | exact gs1 hG | exact gs2 hG | exact gs3 hG | exact gs4 hG | exact ws1 hW | exact ws2 hW | assumption) (by omega) (by omega) ?_
          refine wp_iload dX10_evenedByTwo_100 rfl ?_
          refine wp_imul dX10_evenedByTwo_102 ?_
          refine wp_iload_n dX10_evenedByTwo_103 rfl ?_
          refine wp_aload_n dX10_evenedByTwo_104 rfl ?_
          refine wp_getC dX10_evenedByTwo_105 flX10_99 rfl rfl ?_
          refine wp_iload_n dX10_evenedByTwo_108 rfl ?_
          refine wp_iald dX10_evenedByTwo_109 (by first | rfl | exact gs1 hG | exact gs2 hG | exact gs3 hG | exact gs4 hG | exact ws1 hW | exact ws2 hW | assumption) (by omega) (by omega) ?_
          refine wp_imul dX10_evenedByTwo_110 ?_
          refine wp_isub dX10_evenedByTwo_111 ?_
          refine wp_iload dX10_evenedByTwo_112 rfl ?_
          refine wp_idiv dX10_evenedByTwo_114 (by unfold InR; omega) (by unfold InR; omega) (by omega) (by unfold InR; omega) ?_
          refine wp_istore dX10_evenedByTwo_115 (by decide) ?_
          refine wp_iload_n dX10_evenedByTwo_117 rfl ?_
          refine wp_aload_n dX10_evenedByTwo_118 rfl ?_
          refine wp_getC dX10_evenedByTwo_119 flX10_99 rfl rfl ?_
          refine wp_iload_n dX10_evenedByTwo_122 rfl ?_
          refine wp_iald dX10_evenedByTwo_123 (by first | rfl | exact gs1 hG | exact gs2 hG | exact gs3 hG | exact gs4 hG | exact ws1 hW | exact ws2 hW | assumption) (by omega) (by omega) ?_
          refine wp_imul dX10_evenedByTwo_124 ?_
          refine wp_aload_n dX10_evenedByTwo_125 rfl ?_
          refine wp_getC dX10_evenedByTwo_126 flX10_96 rfl rfl ?_
          refine wp_iload_n dX10_evenedByTwo_129 rfl ?_
          refine wp_iald dX10_evenedByTwo_130 (by first | rfl | exact gs1 hG | exact gs2 hG | exact gs3 hG | exact gs4 hG | exact ws1 hW | exact ws2 hW | assumption) (by omega) (by omega) ?_
          refine wp_iload dX10_evenedByTwo_131 rfl ?_
          refine wp_imul dX10_evenedByTwo_133 ?_
          refine wp_isub dX10_evenedByTwo_134 ?_
          refine wp_iload dX10_evenedByTwo_135 rfl ?_
          refine wp_idiv dX10_evenedByTwo_137 (by unfold InR; omega) (by unfold InR; omega) (by omega) (by unfold InR; omega) ?_
          refine wp_istore dX10_evenedByTwo_138 (by decide) ?_
          refine wp_aload_n dX10_evenedByTwo_140 rfl ?_
          refine wp_getC dX10_evenedByTwo_141 flX10_96 rfl rfl ?_
          refine wp_iload_n dX10_evenedByTwo_144 rfl ?_
          refine wp_iald dX10_evenedByTwo_145 (by first | rfl | exact gs1 hG | exact gs2 hG | exact gs3 hG | exact gs4 hG | exact ws1 hW | exact ws2 hW | assumption) (by omega) (by omega) ?_
          refine wp_iload dX10_evenedByTwo_146 rfl ?_
          refine wp_imul dX10_evenedByTwo_148 ?_
          refine wp_aload_n dX10_evenedByTwo_149 rfl ?_
          refine wp_getC dX10_evenedByTwo_150 flX10_96 rfl rfl ?_
          refine wp_iload_n dX10_evenedByTwo_153 rfl ?_
          refine wp_iald dX10_evenedByTwo_154 (by first | rfl | exact gs1 hG | exact gs2 hG | exact gs3 hG | exact gs4 hG | exact ws1 hW | exact ws2 hW | assumption) (by omega) (by omega) ?_
          refine wp_iload dX10_evenedByTwo_155 rfl ?_
          refine wp_imul dX10_evenedByTwo_157 ?_
          refine wp_iadd dX10_evenedByTwo_158 ?_
          refine wp_iload_n dX10_evenedByTwo_159 rfl ?_
          refine wp_ineg dX10_evenedByTwo_160 ?_
          refine wp_icmpne 227 dX10_evenedByTwo_161 (by decide) (by unfold InR; omega) (by unfold InR; omega) (fun c161 => ?_) (fun c161 => ?_)
          · refine wp_iconst dX10_evenedByTwo_227 ?_
            exact wp_zret dX10_evenedByTwo_228 rfl (by omega) (⟨by
      first
        | (exfalso; omega)
        | exact vb1 (by unfold twB; rw [if_neg (by omega), Bool.and_eq_true, decide_eq_true_iff, decide_eq_true_iff]; exact ⟨by omega, by omega, by omega, by omega, by omega⟩)
        | exact vb0 (fun z => by unfold twB at z; rw [if_neg (by omega), Bool.and_eq_true, decide_eq_true_iff, decide_eq_true_iff] at z; have z2 := z.2; omega), rfl⟩)
          · refine wp_aload_n dX10_evenedByTwo_164 rfl ?_
            refine wp_getC dX10_evenedByTwo_165 flX10_99 rfl rfl ?_
            refine wp_iload_n dX10_evenedByTwo_168 rfl ?_
            refine wp_iald dX10_evenedByTwo_169 (by first | rfl | exact gs1 hG | exact gs2 hG | exact gs3 hG | exact gs4 hG | exact ws1 hW | exact ws2 hW | assumption) (by omega) (by omega) ?_
            refine wp_iload dX10_evenedByTwo_170 rfl ?_
            refine wp_imul dX10_evenedByTwo_172 ?_
            refine wp_aload_n dX10_evenedByTwo_173 rfl ?_
            refine wp_getC dX10_evenedByTwo_174 flX10_99 rfl rfl ?_
            refine wp_iload_n dX10_evenedByTwo_177 rfl ?_
            refine wp_iald dX10_evenedByTwo_178 (by first | rfl | exact gs1 hG | exact gs2 hG | exact gs3 hG | exact gs4 hG | exact ws1 hW | exact ws2 hW | assumption) (by omega) (by omega) ?_
            refine wp_iload dX10_evenedByTwo_179 rfl ?_
            refine wp_imul dX10_evenedByTwo_181 ?_
            refine wp_iadd dX10_evenedByTwo_182 ?_
            refine wp_iload dX10_evenedByTwo_183 rfl ?_
            refine wp_ineg dX10_evenedByTwo_185 ?_
            refine wp_icmpne 227 dX10_evenedByTwo_186 (by decide) (by unfold InR; omega) (by unfold InR; omega) (fun c186 => ?_) (fun c186 => ?_)
            · refine wp_iconst dX10_evenedByTwo_227 ?_
              exact wp_zret dX10_evenedByTwo_228 rfl (by omega) (⟨by
      first
        | (exfalso; omega)
        | exact vb1 (by unfold twB; rw [if_neg (by omega), Bool.and_eq_true, decide_eq_true_iff, decide_eq_true_iff]; exact ⟨by omega, by omega, by omega, by omega, by omega⟩)
        | exact vb0 (fun z => by unfold twB at z; rw [if_neg (by omega), Bool.and_eq_true, decide_eq_true_iff, decide_eq_true_iff] at z; have z2 := z.2; omega), rfl⟩)
            · refine wp_aload_n dX10_evenedByTwo_189 rfl ?_
              refine wp_getM dX10_evenedByTwo_190 flX10_46 rfl rfl ?_
              refine wp_iload_n dX10_evenedByTwo_193 rfl ?_
              refine wp_callVp dX10_evenedByTwo_194 mlX10_159 mvX3_heightOf (S_X3_heightOf g (by first | assumption | (unfold InR; omega))) rfl rfl (by decide) (by decide) (gs0 hG) rfl rfl (Nat.le_of_ble_eq_true rfl) ?_
              refine wp_iload dX10_evenedByTwo_197 rfl ?_
              refine wp_iadd dX10_evenedByTwo_199 ?_
              refine wp_callSp dX10_evenedByTwo_200 mlX10_253 msX10_isTold (S_X10_isTold (by first | assumption | (unfold InR; omega))) rfl rfl (by decide) (by decide) (Nat.le_of_ble_eq_true rfl) ?_
              refine wp_ifeqb 227 dX10_evenedByTwo_203 (by decide) (fun c203 => ?_) (fun c203 => ?_)
              · refine wp_iconst dX10_evenedByTwo_227 ?_
                exact wp_zret dX10_evenedByTwo_228 rfl (by omega) (⟨by
      first
        | (exfalso; omega)
        | exact vb1 (by unfold twB; rw [if_neg (by omega), Bool.and_eq_true, decide_eq_true_iff, decide_eq_true_iff]; exact ⟨by omega, by omega, by omega, by omega, by omega⟩)
        | exact vb0 (fun z => by unfold twB at z; rw [if_neg (by omega), Bool.and_eq_true, decide_eq_true_iff, decide_eq_true_iff] at z; have z2 := z.2; omega), rfl⟩)
              · refine wp_aload_n dX10_evenedByTwo_206 rfl ?_
                refine wp_getM dX10_evenedByTwo_207 flX10_46 rfl rfl ?_
                refine wp_iload_n dX10_evenedByTwo_210 rfl ?_
                refine wp_callVp dX10_evenedByTwo_211 mlX10_159 mvX3_heightOf (S_X3_heightOf g (by first | assumption | (unfold InR; omega))) rfl rfl (by decide) (by decide) (gs0 hG) rfl rfl (Nat.le_of_ble_eq_true rfl) ?_
                refine wp_iload dX10_evenedByTwo_214 rfl ?_
                refine wp_iadd dX10_evenedByTwo_216 ?_
                refine wp_callSp dX10_evenedByTwo_217 mlX10_253 msX10_isTold (S_X10_isTold (by first | assumption | (unfold InR; omega))) rfl rfl (by decide) (by decide) (Nat.le_of_ble_eq_true rfl) ?_
                refine wp_ifeqb 227 dX10_evenedByTwo_220 (by decide) (fun c220 => ?_) (fun c220 => ?_)
                · refine wp_iconst dX10_evenedByTwo_227 ?_
                  exact wp_zret dX10_evenedByTwo_228 rfl (by omega) (⟨by
      first
        | (exfalso; omega)
        | exact vb1 (by unfold twB; rw [if_neg (by omega), Bool.and_eq_true, decide_eq_true_iff, decide_eq_true_iff]; exact ⟨by omega, by omega, by omega, by omega, by omega⟩)
        | exact vb0 (fun z => by unfold twB at z; rw [if_neg (by omega), Bool.and_eq_true, decide_eq_true_iff, decide_eq_true_iff] at z; have z2 := z.2; omega), rfl⟩)
                · refine wp_iconst dX10_evenedByTwo_223 ?_
                  refine wp_goto 228 dX10_evenedByTwo_224 (by decide) ?_
                  exact wp_zret dX10_evenedByTwo_228 rfl (by omega) (⟨by
      first
        | (exfalso; omega)
        | exact vb1 (by unfold twB; rw [if_neg (by omega), Bool.and_eq_true, decide_eq_true_iff, decide_eq_true_iff]; exact ⟨by omega, by omega, by omega, by omega, by omega⟩)
        | exact vb0 (fun z => by unfold twB at z; rw [if_neg (by omega), Bool.and_eq_true, decide_eq_true_iff, decide_eq_true_iff] at z; have z2 := z.2; omega), rfl⟩)
        · refine wp_aload_n dX10_evenedByTwo_84 rfl ?_
          refine wp_iload_n dX10_evenedByTwo_85 rfl ?_
          refine wp_iload_n dX10_evenedByTwo_86 rfl ?_
          refine wp_iload_n dX10_evenedByTwo_87 rfl ?_
          refine wp_iload dX10_evenedByTwo_88 rfl ?_
          refine wp_callVp dX10_evenedByTwo_90 mlX10_274 mvX10_evenedAlongOneLine (S_X10_evenedAlongOneLine g sb hq ha hb hs) rfl rfl (by decide) (by decide) rfl rfl rfl (Nat.le_of_ble_eq_true rfl) ?_
          exact wp_zret dX10_evenedByTwo_93 rfl b2i_z (⟨vi (b2i_congr (by unfold twB; rw [if_pos (by omega), decide_eq_true (by omega), Bool.true_and])), rfl⟩)
      · refine wp_iconst dX10_evenedByTwo_48 ?_
        exact wp_zret dX10_evenedByTwo_49 rfl (by omega) (⟨vb0 (fun z => by unfold twB at z; rw [Bool.and_eq_true, decide_eq_true_iff] at z; have := z.1; omega), rfl⟩)
    · refine wp_aload_n dX10_evenedByTwo_18 rfl ?_
      refine wp_getC dX10_evenedByTwo_19 flX10_96 rfl rfl ?_
      refine wp_iload_n dX10_evenedByTwo_22 rfl ?_
      refine wp_iald dX10_evenedByTwo_23 (by first | rfl | exact gs1 hG | exact gs2 hG | exact gs3 hG | exact gs4 hG | exact ws1 hW | exact ws2 hW | assumption) (by omega) (by omega) ?_
      refine wp_ifne 40 dX10_evenedByTwo_24 (by decide) (by unfold InR; omega) (fun c24 => ?_) (fun c24 => ?_)
      · refine wp_iconst dX10_evenedByTwo_40 ?_
        refine wp_istore dX10_evenedByTwo_41 (by decide) ?_
        refine wp_iload dX10_evenedByTwo_43 rfl ?_
        refine wp_ifeq 50 dX10_evenedByTwo_45 (by decide) (by unfold InR; omega) (fun c45 => ?_) (fun c45 => ?_)
        · refine wp_aload_n dX10_evenedByTwo_50 rfl ?_
          refine wp_getC dX10_evenedByTwo_51 flX10_96 rfl rfl ?_
          refine wp_iload_n dX10_evenedByTwo_54 rfl ?_
          refine wp_iald dX10_evenedByTwo_55 (by first | rfl | exact gs1 hG | exact gs2 hG | exact gs3 hG | exact gs4 hG | exact ws1 hW | exact ws2 hW | assumption) (by omega) (by omega) ?_
          refine wp_aload_n dX10_evenedByTwo_56 rfl ?_
          refine wp_getC dX10_evenedByTwo_57 flX10_99 rfl rfl ?_
          refine wp_iload_n dX10_evenedByTwo_60 rfl ?_
          refine wp_iald dX10_evenedByTwo_61 (by first | rfl | exact gs1 hG | exact gs2 hG | exact gs3 hG | exact gs4 hG | exact ws1 hW | exact ws2 hW | assumption) (by omega) (by omega) ?_
          refine wp_imul dX10_evenedByTwo_62 ?_
          refine wp_aload_n dX10_evenedByTwo_63 rfl ?_
          refine wp_getC dX10_evenedByTwo_64 flX10_96 rfl rfl ?_
          refine wp_iload_n dX10_evenedByTwo_67 rfl ?_
          refine wp_iald dX10_evenedByTwo_68 (by first | rfl | exact gs1 hG | exact gs2 hG | exact gs3 hG | exact gs4 hG | exact ws1 hW | exact ws2 hW | assumption) (by omega) (by omega) ?_
          refine wp_aload_n dX10_evenedByTwo_69 rfl ?_
          refine wp_getC dX10_evenedByTwo_70 flX10_99 rfl rfl ?_
          refine wp_iload_n dX10_evenedByTwo_73 rfl ?_
          refine wp_iald dX10_evenedByTwo_74 (by first | rfl | exact gs1 hG | exact gs2 hG | exact gs3 hG | exact gs4 hG | exact ws1 hW | exact ws2 hW | assumption) (by omega) (by omega) ?_
          refine wp_imul dX10_evenedByTwo_75 ?_
          refine wp_isub dX10_evenedByTwo_76 ?_
          refine wp_istore dX10_evenedByTwo_77 (by decide) ?_
          refine wp_iload dX10_evenedByTwo_79 rfl ?_
          refine wp_ifne 94 dX10_evenedByTwo_81 (by decide) (by unfold InR; omega) (fun c81 => ?_) (fun c81 => ?_)
          · refine wp_aload_n dX10_evenedByTwo_94 rfl ?_
            refine wp_getC dX10_evenedByTwo_95 flX10_96 rfl rfl ?_
            refine wp_iload_n dX10_evenedByTwo_98 rfl ?_
            refine wp_iald dX10_evenedByTwo_99 (by first | rfl | exact gs1 hG | exact gs2 hG | exact gs3 hG | exact gs4 hG | exact ws1 hW | exact ws2 hW | assumption) (by omega) (by omega) ?_
            refine wp_iload dX10_evenedByTwo_100 rfl ?_
            refine wp_imul dX10_evenedByTwo_102 ?_
            refine wp_iload_n dX10_evenedByTwo_103 rfl ?_
            refine wp_aload_n dX10_evenedByTwo_104 rfl ?_
            refine wp_getC dX10_evenedByTwo_105 flX10_99 rfl rfl ?_
            refine wp_iload_n dX10_evenedByTwo_108 rfl ?_
            refine wp_iald dX10_evenedByTwo_109 (by first | rfl | exact gs1 hG | exact gs2 hG | exact gs3 hG | exact gs4 hG | exact ws1 hW | exact ws2 hW | assumption) (by omega) (by omega) ?_
            refine wp_imul dX10_evenedByTwo_110 ?_
            refine wp_isub dX10_evenedByTwo_111 ?_
            refine wp_iload dX10_evenedByTwo_112 rfl ?_
            refine wp_idiv dX10_evenedByTwo_114 (by unfold InR; omega) (by unfold InR; omega) (by omega) (by unfold InR; omega) ?_
            refine wp_istore dX10_evenedByTwo_115 (by decide) ?_
            refine wp_iload_n dX10_evenedByTwo_117 rfl ?_
            refine wp_aload_n dX10_evenedByTwo_118 rfl ?_
            refine wp_getC dX10_evenedByTwo_119 flX10_99 rfl rfl ?_
            refine wp_iload_n dX10_evenedByTwo_122 rfl ?_
            refine wp_iald dX10_evenedByTwo_123 (by first | rfl | exact gs1 hG | exact gs2 hG | exact gs3 hG | exact gs4 hG | exact ws1 hW | exact ws2 hW | assumption) (by omega) (by omega) ?_
            refine wp_imul dX10_evenedByTwo_124 ?_
            refine wp_aload_n dX10_evenedByTwo_125 rfl ?_
            refine wp_getC dX10_evenedByTwo_126 flX10_96 rfl rfl ?_
            refine wp_iload_n dX10_evenedByTwo_129 rfl ?_
            refine wp_iald dX10_evenedByTwo_130 (by first | rfl | exact gs1 hG | exact gs2 hG | exact gs3 hG | exact gs4 hG | exact ws1 hW | exact ws2 hW | assumption) (by omega) (by omega) ?_
            refine wp_iload dX10_evenedByTwo_131 rfl ?_
            refine wp_imul dX10_evenedByTwo_133 ?_
            refine wp_isub dX10_evenedByTwo_134 ?_
            refine wp_iload dX10_evenedByTwo_135 rfl ?_
            refine wp_idiv dX10_evenedByTwo_137 (by unfold InR; omega) (by unfold InR; omega) (by omega) (by unfold InR; omega) ?_
            refine wp_istore dX10_evenedByTwo_138 (by decide) ?_
            refine wp_aload_n dX10_evenedByTwo_140 rfl ?_
            refine wp_getC dX10_evenedByTwo_141 flX10_96 rfl rfl ?_
            refine wp_iload_n dX10_evenedByTwo_144 rfl ?_
            refine wp_iald dX10_evenedByTwo_145 (by first | rfl | exact gs1 hG | exact gs2 hG | exact gs3 hG | exact gs4 hG | exact ws1 hW | exact ws2 hW | assumption) (by omega) (by omega) ?_
            refine wp_iload dX10_evenedByTwo_146 rfl ?_
            refine wp_imul dX10_evenedByTwo_148 ?_
            refine wp_aload_n dX10_evenedByTwo_149 rfl ?_
            refine wp_getC dX10_evenedByTwo_150 flX10_96 rfl rfl ?_
            refine wp_iload_n dX10_evenedByTwo_153 rfl ?_
            refine wp_iald dX10_evenedByTwo_154 (by first | rfl | exact gs1 hG | exact gs2 hG | exact gs3 hG | exact gs4 hG | exact ws1 hW | exact ws2 hW | assumption) (by omega) (by omega) ?_
            refine wp_iload dX10_evenedByTwo_155 rfl ?_
            refine wp_imul dX10_evenedByTwo_157 ?_
            refine wp_iadd dX10_evenedByTwo_158 ?_
            refine wp_iload_n dX10_evenedByTwo_159 rfl ?_
            refine wp_ineg dX10_evenedByTwo_160 ?_
            refine wp_icmpne 227 dX10_evenedByTwo_161 (by decide) (by unfold InR; omega) (by unfold InR; omega) (fun c161 => ?_) (fun c161 => ?_)
            · refine wp_iconst dX10_evenedByTwo_227 ?_
              exact wp_zret dX10_evenedByTwo_228 rfl (by omega) (⟨by
      first
        | (exfalso; omega)
        | exact vb1 (by unfold twB; rw [if_neg (by omega), Bool.and_eq_true, decide_eq_true_iff, decide_eq_true_iff]; exact ⟨by omega, by omega, by omega, by omega, by omega⟩)
        | exact vb0 (fun z => by unfold twB at z; rw [if_neg (by omega), Bool.and_eq_true, decide_eq_true_iff, decide_eq_true_iff] at z; have z2 := z.2; omega), rfl⟩)
            · refine wp_aload_n dX10_evenedByTwo_164 rfl ?_
              refine wp_getC dX10_evenedByTwo_165 flX10_99 rfl rfl ?_
              refine wp_iload_n dX10_evenedByTwo_168 rfl ?_
              refine wp_iald dX10_evenedByTwo_169 (by first | rfl | exact gs1 hG | exact gs2 hG | exact gs3 hG | exact gs4 hG | exact ws1 hW | exact ws2 hW | assumption) (by omega) (by omega) ?_
              refine wp_iload dX10_evenedByTwo_170 rfl ?_
              refine wp_imul dX10_evenedByTwo_172 ?_
              refine wp_aload_n dX10_evenedByTwo_173 rfl ?_
              refine wp_getC dX10_evenedByTwo_174 flX10_99 rfl rfl ?_
              refine wp_iload_n dX10_evenedByTwo_177 rfl ?_
              refine wp_iald dX10_evenedByTwo_178 (by first | rfl | exact gs1 hG | exact gs2 hG | exact gs3 hG | exact gs4 hG | exact ws1 hW | exact ws2 hW | assumption) (by omega) (by omega) ?_
              refine wp_iload dX10_evenedByTwo_179 rfl ?_
              refine wp_imul dX10_evenedByTwo_181 ?_
              refine wp_iadd dX10_evenedByTwo_182 ?_
              refine wp_iload dX10_evenedByTwo_183 rfl ?_
              refine wp_ineg dX10_evenedByTwo_185 ?_
              refine wp_icmpne 227 dX10_evenedByTwo_186 (by decide) (by unfold InR; omega) (by unfold InR; omega) (fun c186 => ?_) (fun c186 => ?_)
              · refine wp_iconst dX10_evenedByTwo_227 ?_
                exact wp_zret dX10_evenedByTwo_228 rfl (by omega) (⟨by
      first
        | (exfalso; omega)
        | exact vb1 (by unfold twB; rw [if_neg (by omega), Bool.and_eq_true, decide_eq_true_iff, decide_eq_true_iff]; exact ⟨by omega, by omega, by omega, by omega, by omega⟩)
        | exact vb0 (fun z => by unfold twB at z; rw [if_neg (by omega), Bool.and_eq_true, decide_eq_true_iff, decide_eq_true_iff] at z; have z2 := z.2; omega), rfl⟩)
              · refine wp_aload_n dX10_evenedByTwo_189 rfl ?_
                refine wp_getM dX10_evenedByTwo_190 flX10_46 rfl rfl ?_
                refine wp_iload_n dX10_evenedByTwo_193 rfl ?_
                refine wp_callVp dX10_evenedByTwo_194 mlX10_159 mvX3_heightOf (S_X3_heightOf g (by first | assumption | (unfold InR; omega))) rfl rfl (by decide) (by decide) (gs0 hG) rfl rfl (Nat.le_of_ble_eq_true rfl) ?_
                refine wp_iload dX10_evenedByTwo_197 rfl ?_
                refine wp_iadd dX10_evenedByTwo_199 ?_
                refine wp_callSp dX10_evenedByTwo_200 mlX10_253 msX10_isTold (S_X10_isTold (by first | assumption | (unfold InR; omega))) rfl rfl (by decide) (by decide) (Nat.le_of_ble_eq_true rfl) ?_
                refine wp_ifeqb 227 dX10_evenedByTwo_203 (by decide) (fun c203 => ?_) (fun c203 => ?_)
                · refine wp_iconst dX10_evenedByTwo_227 ?_
                  exact wp_zret dX10_evenedByTwo_228 rfl (by omega) (⟨by
      first
        | (exfalso; omega)
        | exact vb1 (by unfold twB; rw [if_neg (by omega), Bool.and_eq_true, decide_eq_true_iff, decide_eq_true_iff]; exact ⟨by omega, by omega, by omega, by omega, by omega⟩)
        | exact vb0 (fun z => by unfold twB at z; rw [if_neg (by omega), Bool.and_eq_true, decide_eq_true_iff, decide_eq_true_iff] at z; have z2 := z.2; omega), rfl⟩)
                · refine wp_aload_n dX10_evenedByTwo_206 rfl ?_
                  refine wp_getM dX10_evenedByTwo_207 flX10_46 rfl rfl ?_
                  refine wp_iload_n dX10_evenedByTwo_210 rfl ?_
                  refine wp_callVp dX10_evenedByTwo_211 mlX10_159 mvX3_heightOf (S_X3_heightOf g (by first | assumption | (unfold InR; omega))) rfl rfl (by decide) (by decide) (gs0 hG) rfl rfl (Nat.le_of_ble_eq_true rfl) ?_
                  refine wp_iload dX10_evenedByTwo_214 rfl ?_
                  refine wp_iadd dX10_evenedByTwo_216 ?_
                  refine wp_callSp dX10_evenedByTwo_217 mlX10_253 msX10_isTold (S_X10_isTold (by first | assumption | (unfold InR; omega))) rfl rfl (by decide) (by decide) (Nat.le_of_ble_eq_true rfl) ?_
                  refine wp_ifeqb 227 dX10_evenedByTwo_220 (by decide) (fun c220 => ?_) (fun c220 => ?_)
                  · refine wp_iconst dX10_evenedByTwo_227 ?_
                    exact wp_zret dX10_evenedByTwo_228 rfl (by omega) (⟨by
      first
        | (exfalso; omega)
        | exact vb1 (by unfold twB; rw [if_neg (by omega), Bool.and_eq_true, decide_eq_true_iff, decide_eq_true_iff]; exact ⟨by omega, by omega, by omega, by omega, by omega⟩)
        | exact vb0 (fun z => by unfold twB at z; rw [if_neg (by omega), Bool.and_eq_true, decide_eq_true_iff, decide_eq_true_iff] at z; have z2 := z.2; omega), rfl⟩)
                  · refine wp_iconst dX10_evenedByTwo_223 ?_
                    refine wp_goto 228 dX10_evenedByTwo_224 (by decide) ?_
                    exact wp_zret dX10_evenedByTwo_228 rfl (by omega) (⟨by
      first
        | (exfalso; omega)
        | exact vb1 (by unfold twB; rw [if_neg (by omega), Bool.and_eq_true, decide_eq_true_iff, decide_eq_true_iff]; exact ⟨by omega, by omega, by omega, by omega, by omega⟩)
        | exact vb0 (fun z => by unfold twB at z; rw [if_neg (by omega), Bool.and_eq_true, decide_eq_true_iff, decide_eq_true_iff] at z; have z2 := z.2; omega), rfl⟩)
          · refine wp_aload_n dX10_evenedByTwo_84 rfl ?_
            refine wp_iload_n dX10_evenedByTwo_85 rfl ?_
            refine wp_iload_n dX10_evenedByTwo_86 rfl ?_
            refine wp_iload_n dX10_evenedByTwo_87 rfl ?_
            refine wp_iload dX10_evenedByTwo_88 rfl ?_
            refine wp_callVp dX10_evenedByTwo_90 mlX10_274 mvX10_evenedAlongOneLine (S_X10_evenedAlongOneLine g sb hq ha hb hs) rfl rfl (by decide) (by decide) rfl rfl rfl (Nat.le_of_ble_eq_true rfl) ?_
            exact wp_zret dX10_evenedByTwo_93 rfl b2i_z (⟨vi (b2i_congr (by unfold twB; rw [if_pos (by omega), decide_eq_true (by omega), Bool.true_and])), rfl⟩)
        · refine wp_iconst dX10_evenedByTwo_48 ?_
          exact wp_zret dX10_evenedByTwo_49 rfl (by omega) (⟨vb0 (fun z => by unfold twB at z; rw [Bool.and_eq_true, decide_eq_true_iff] at z; have := z.1; omega), rfl⟩)
      · refine wp_aload_n dX10_evenedByTwo_27 rfl ?_
        refine wp_getC dX10_evenedByTwo_28 flX10_99 rfl rfl ?_
        refine wp_iload_n dX10_evenedByTwo_31 rfl ?_
        refine wp_iald dX10_evenedByTwo_32 (by first | rfl | exact gs1 hG | exact gs2 hG | exact gs3 hG | exact gs4 hG | exact ws1 hW | exact ws2 hW | assumption) (by omega) (by omega) ?_
        refine wp_ifne 40 dX10_evenedByTwo_33 (by decide) (by unfold InR; omega) (fun c33 => ?_) (fun c33 => ?_)
        · refine wp_iconst dX10_evenedByTwo_40 ?_
          refine wp_istore dX10_evenedByTwo_41 (by decide) ?_
          refine wp_iload dX10_evenedByTwo_43 rfl ?_
          refine wp_ifeq 50 dX10_evenedByTwo_45 (by decide) (by unfold InR; omega) (fun c45 => ?_) (fun c45 => ?_)
          · refine wp_aload_n dX10_evenedByTwo_50 rfl ?_
            refine wp_getC dX10_evenedByTwo_51 flX10_96 rfl rfl ?_
            refine wp_iload_n dX10_evenedByTwo_54 rfl ?_
            refine wp_iald dX10_evenedByTwo_55 (by first | rfl | exact gs1 hG | exact gs2 hG | exact gs3 hG | exact gs4 hG | exact ws1 hW | exact ws2 hW | assumption) (by omega) (by omega) ?_
            refine wp_aload_n dX10_evenedByTwo_56 rfl ?_
            refine wp_getC dX10_evenedByTwo_57 flX10_99 rfl rfl ?_
            refine wp_iload_n dX10_evenedByTwo_60 rfl ?_
            refine wp_iald dX10_evenedByTwo_61 (by first | rfl | exact gs1 hG | exact gs2 hG | exact gs3 hG | exact gs4 hG | exact ws1 hW | exact ws2 hW | assumption) (by omega) (by omega) ?_
            refine wp_imul dX10_evenedByTwo_62 ?_
            refine wp_aload_n dX10_evenedByTwo_63 rfl ?_
            refine wp_getC dX10_evenedByTwo_64 flX10_96 rfl rfl ?_
            refine wp_iload_n dX10_evenedByTwo_67 rfl ?_
            refine wp_iald dX10_evenedByTwo_68 (by first | rfl | exact gs1 hG | exact gs2 hG | exact gs3 hG | exact gs4 hG | exact ws1 hW | exact ws2 hW | assumption) (by omega) (by omega) ?_
            refine wp_aload_n dX10_evenedByTwo_69 rfl ?_
            refine wp_getC dX10_evenedByTwo_70 flX10_99 rfl rfl ?_
            refine wp_iload_n dX10_evenedByTwo_73 rfl ?_
            refine wp_iald dX10_evenedByTwo_74 (by first | rfl | exact gs1 hG | exact gs2 hG | exact gs3 hG | exact gs4 hG | exact ws1 hW | exact ws2 hW | assumption) (by omega) (by omega) ?_
            refine wp_imul dX10_evenedByTwo_75 ?_
            refine wp_isub dX10_evenedByTwo_76 ?_
            refine wp_istore dX10_evenedByTwo_77 (by decide) ?_
            refine wp_iload dX10_evenedByTwo_79 rfl ?_
            refine wp_ifne 94 dX10_evenedByTwo_81 (by decide) (by unfold InR; omega) (fun c81 => ?_) (fun c81 => ?_)
            · refine wp_aload_n dX10_evenedByTwo_94 rfl ?_
              refine wp_getC dX10_evenedByTwo_95 flX10_96 rfl rfl ?_
              refine wp_iload_n dX10_evenedByTwo_98 rfl ?_
              refine wp_iald dX10_evenedByTwo_99 (by first | rfl | exact gs1 hG | exact gs2 hG | exact gs3 hG | exact gs4 hG | exact ws1 hW | exact ws2 hW | assumption) (by omega) (by omega) ?_
              refine wp_iload dX10_evenedByTwo_100 rfl ?_
              refine wp_imul dX10_evenedByTwo_102 ?_
              refine wp_iload_n dX10_evenedByTwo_103 rfl ?_
              refine wp_aload_n dX10_evenedByTwo_104 rfl ?_
              refine wp_getC dX10_evenedByTwo_105 flX10_99 rfl rfl ?_
              refine wp_iload_n dX10_evenedByTwo_108 rfl ?_
              refine wp_iald dX10_evenedByTwo_109 (by first | rfl | exact gs1 hG | exact gs2 hG | exact gs3 hG | exact gs4 hG | exact ws1 hW | exact ws2 hW | assumption) (by omega) (by omega) ?_
              refine wp_imul dX10_evenedByTwo_110 ?_
              refine wp_isub dX10_evenedByTwo_111 ?_
              refine wp_iload dX10_evenedByTwo_112 rfl ?_
              refine wp_idiv dX10_evenedByTwo_114 (by unfold InR; omega) (by unfold InR; omega) (by omega) (by unfold InR; omega) ?_
              refine wp_istore dX10_evenedByTwo_115 (by decide) ?_
              refine wp_iload_n dX10_evenedByTwo_117 rfl ?_
              refine wp_aload_n dX10_evenedByTwo_118 rfl ?_
              refine wp_getC dX10_evenedByTwo_119 flX10_99 rfl rfl ?_
              refine wp_iload_n dX10_evenedByTwo_122 rfl ?_
              refine wp_iald dX10_evenedByTwo_123 (by first | rfl | exact gs1 hG | exact gs2 hG | exact gs3 hG | exact gs4 hG | exact ws1 hW | exact ws2 hW | assumption) (by omega) (by omega) ?_
              refine wp_imul dX10_evenedByTwo_124 ?_
              refine wp_aload_n dX10_evenedByTwo_125 rfl ?_
              refine wp_getC dX10_evenedByTwo_126 flX10_96 rfl rfl ?_
              refine wp_iload_n dX10_evenedByTwo_129 rfl ?_
              refine wp_iald dX10_evenedByTwo_130 (by first | rfl | exact gs1 hG | exact gs2 hG | exact gs3 hG | exact gs4 hG | exact ws1 hW | exact ws2 hW | assumption) (by omega) (by omega) ?_
              refine wp_iload dX10_evenedByTwo_131 rfl ?_
              refine wp_imul dX10_evenedByTwo_133 ?_
              refine wp_isub dX10_evenedByTwo_134 ?_
              refine wp_iload dX10_evenedByTwo_135 rfl ?_
              refine wp_idiv dX10_evenedByTwo_137 (by unfold InR; omega) (by unfold InR; omega) (by omega) (by unfold InR; omega) ?_
              refine wp_istore dX10_evenedByTwo_138 (by decide) ?_
              refine wp_aload_n dX10_evenedByTwo_140 rfl ?_
              refine wp_getC dX10_evenedByTwo_141 flX10_96 rfl rfl ?_
              refine wp_iload_n dX10_evenedByTwo_144 rfl ?_
              refine wp_iald dX10_evenedByTwo_145 (by first | rfl | exact gs1 hG | exact gs2 hG | exact gs3 hG | exact gs4 hG | exact ws1 hW | exact ws2 hW | assumption) (by omega) (by omega) ?_
              refine wp_iload dX10_evenedByTwo_146 rfl ?_
              refine wp_imul dX10_evenedByTwo_148 ?_
              refine wp_aload_n dX10_evenedByTwo_149 rfl ?_
              refine wp_getC dX10_evenedByTwo_150 flX10_96 rfl rfl ?_
              refine wp_iload_n dX10_evenedByTwo_153 rfl ?_
              refine wp_iald dX10_evenedByTwo_154 (by first | rfl | exact gs1 hG | exact gs2 hG | exact gs3 hG | exact gs4 hG | exact ws1 hW | exact ws2 hW | assumption) (by omega) (by omega) ?_
              refine wp_iload dX10_evenedByTwo_155 rfl ?_
              refine wp_imul dX10_evenedByTwo_157 ?_
              refine wp_iadd dX10_evenedByTwo_158 ?_
              refine wp_iload_n dX10_evenedByTwo_159 rfl ?_
              refine wp_ineg dX10_evenedByTwo_160 ?_
              refine wp_icmpne 227 dX10_evenedByTwo_161 (by decide) (by unfold InR; omega) (by unfold InR; omega) (fun c161 => ?_) (fun c161 => ?_)
              · refine wp_iconst dX10_evenedByTwo_227 ?_
                exact wp_zret dX10_evenedByTwo_228 rfl (by omega) (⟨by
      first
        | (exfalso; omega)
        | exact vb1 (by unfold twB; rw [if_neg (by omega), Bool.and_eq_true, decide_eq_true_iff, decide_eq_true_iff]; exact ⟨by omega, by omega, by omega, by omega, by omega⟩)
        | exact vb0 (fun z => by unfold twB at z; rw [if_neg (by omega), Bool.and_eq_true, decide_eq_true_iff, decide_eq_true_iff] at z; have z2 := z.2; omega), rfl⟩)
              · refine wp_aload_n dX10_evenedByTwo_164 rfl ?_
                refine wp_getC dX10_evenedByTwo_165 flX10_99 rfl rfl ?_
                refine wp_iload_n dX10_evenedByTwo_168 rfl ?_
                refine wp_iald dX10_evenedByTwo_169 (by first | rfl | exact gs1 hG | exact gs2 hG | exact gs3 hG | exact gs4 hG | exact ws1 hW | exact ws2 hW | assumption) (by omega) (by omega) ?_
                refine wp_iload dX10_evenedByTwo_170 rfl ?_
                refine wp_imul dX10_evenedByTwo_172 ?_
                refine wp_aload_n dX10_evenedByTwo_173 rfl ?_
                refine wp_getC dX10_evenedByTwo_174 flX10_99 rfl rfl ?_
                refine wp_iload_n dX10_evenedByTwo_177 rfl ?_
                refine wp_iald dX10_evenedByTwo_178 (by first | rfl | exact gs1 hG | exact gs2 hG | exact gs3 hG | exact gs4 hG | exact ws1 hW | exact ws2 hW | assumption) (by omega) (by omega) ?_
                refine wp_iload dX10_evenedByTwo_179 rfl ?_
                refine wp_imul dX10_evenedByTwo_181 ?_
                refine wp_iadd dX10_evenedByTwo_182 ?_
                refine wp_iload dX10_evenedByTwo_183 rfl ?_
                refine wp_ineg dX10_evenedByTwo_185 ?_
                refine wp_icmpne 227 dX10_evenedByTwo_186 (by decide) (by unfold InR; omega) (by unfold InR; omega) (fun c186 => ?_) (fun c186 => ?_)
                · refine wp_iconst dX10_evenedByTwo_227 ?_
                  exact wp_zret dX10_evenedByTwo_228 rfl (by omega) (⟨by
      first
        | (exfalso; omega)
        | exact vb1 (by unfold twB; rw [if_neg (by omega), Bool.and_eq_true, decide_eq_true_iff, decide_eq_true_iff]; exact ⟨by omega, by omega, by omega, by omega, by omega⟩)
        | exact vb0 (fun z => by unfold twB at z; rw [if_neg (by omega), Bool.and_eq_true, decide_eq_true_iff, decide_eq_true_iff] at z; have z2 := z.2; omega), rfl⟩)
                · refine wp_aload_n dX10_evenedByTwo_189 rfl ?_
                  refine wp_getM dX10_evenedByTwo_190 flX10_46 rfl rfl ?_
                  refine wp_iload_n dX10_evenedByTwo_193 rfl ?_
                  refine wp_callVp dX10_evenedByTwo_194 mlX10_159 mvX3_heightOf (S_X3_heightOf g (by first | assumption | (unfold InR; omega))) rfl rfl (by decide) (by decide) (gs0 hG) rfl rfl (Nat.le_of_ble_eq_true rfl) ?_
                  refine wp_iload dX10_evenedByTwo_197 rfl ?_
                  refine wp_iadd dX10_evenedByTwo_199 ?_
                  refine wp_callSp dX10_evenedByTwo_200 mlX10_253 msX10_isTold (S_X10_isTold (by first | assumption | (unfold InR; omega))) rfl rfl (by decide) (by decide) (Nat.le_of_ble_eq_true rfl) ?_
                  refine wp_ifeqb 227 dX10_evenedByTwo_203 (by decide) (fun c203 => ?_) (fun c203 => ?_)
                  · refine wp_iconst dX10_evenedByTwo_227 ?_
                    exact wp_zret dX10_evenedByTwo_228 rfl (by omega) (⟨by
      first
        | (exfalso; omega)
        | exact vb1 (by unfold twB; rw [if_neg (by omega), Bool.and_eq_true, decide_eq_true_iff, decide_eq_true_iff]; exact ⟨by omega, by omega, by omega, by omega, by omega⟩)
        | exact vb0 (fun z => by unfold twB at z; rw [if_neg (by omega), Bool.and_eq_true, decide_eq_true_iff, decide_eq_true_iff] at z; have z2 := z.2; omega), rfl⟩)
                  · refine wp_aload_n dX10_evenedByTwo_206 rfl ?_
                    refine wp_getM dX10_evenedByTwo_207 flX10_46 rfl rfl ?_
                    refine wp_iload_n dX10_evenedByTwo_210 rfl ?_
                    refine wp_callVp dX10_evenedByTwo_211 mlX10_159 mvX3_heightOf (S_X3_heightOf g (by first | assumption | (unfold InR; omega))) rfl rfl (by decide) (by decide) (gs0 hG) rfl rfl (Nat.le_of_ble_eq_true rfl) ?_
                    refine wp_iload dX10_evenedByTwo_214 rfl ?_
                    refine wp_iadd dX10_evenedByTwo_216 ?_
                    refine wp_callSp dX10_evenedByTwo_217 mlX10_253 msX10_isTold (S_X10_isTold (by first | assumption | (unfold InR; omega))) rfl rfl (by decide) (by decide) (Nat.le_of_ble_eq_true rfl) ?_
                    refine wp_ifeqb 227 dX10_evenedByTwo_220 (by decide) (fun c220 => ?_) (fun c220 => ?_)
                    · refine wp_iconst dX10_evenedByTwo_227 ?_
                      exact wp_zret dX10_evenedByTwo_228 rfl (by omega) (⟨by
      first
        | (exfalso; omega)
        | exact vb1 (by unfold twB; rw [if_neg (by omega), Bool.and_eq_true, decide_eq_true_iff, decide_eq_true_iff]; exact ⟨by omega, by omega, by omega, by omega, by omega⟩)
        | exact vb0 (fun z => by unfold twB at z; rw [if_neg (by omega), Bool.and_eq_true, decide_eq_true_iff, decide_eq_true_iff] at z; have z2 := z.2; omega), rfl⟩)
                    · refine wp_iconst dX10_evenedByTwo_223 ?_
                      refine wp_goto 228 dX10_evenedByTwo_224 (by decide) ?_
                      exact wp_zret dX10_evenedByTwo_228 rfl (by omega) (⟨by
      first
        | (exfalso; omega)
        | exact vb1 (by unfold twB; rw [if_neg (by omega), Bool.and_eq_true, decide_eq_true_iff, decide_eq_true_iff]; exact ⟨by omega, by omega, by omega, by omega, by omega⟩)
        | exact vb0 (fun z => by unfold twB at z; rw [if_neg (by omega), Bool.and_eq_true, decide_eq_true_iff, decide_eq_true_iff] at z; have z2 := z.2; omega), rfl⟩)
            · refine wp_aload_n dX10_evenedByTwo_84 rfl ?_
              refine wp_iload_n dX10_evenedByTwo_85 rfl ?_
              refine wp_iload_n dX10_evenedByTwo_86 rfl ?_
              refine wp_iload_n dX10_evenedByTwo_87 rfl ?_
              refine wp_iload dX10_evenedByTwo_88 rfl ?_
              refine wp_callVp dX10_evenedByTwo_90 mlX10_274 mvX10_evenedAlongOneLine (S_X10_evenedAlongOneLine g sb hq ha hb hs) rfl rfl (by decide) (by decide) rfl rfl rfl (Nat.le_of_ble_eq_true rfl) ?_
              exact wp_zret dX10_evenedByTwo_93 rfl b2i_z (⟨vi (b2i_congr (by unfold twB; rw [if_pos (by omega), decide_eq_true (by omega), Bool.true_and])), rfl⟩)
          · refine wp_iconst dX10_evenedByTwo_48 ?_
            exact wp_zret dX10_evenedByTwo_49 rfl (by omega) (⟨vb0 (fun z => by unfold twB at z; rw [Bool.and_eq_true, decide_eq_true_iff] at z; have := z.1; omega), rfl⟩)
        · refine wp_iconst dX10_evenedByTwo_36 ?_
          refine wp_goto 41 dX10_evenedByTwo_37 (by decide) ?_
          refine wp_istore dX10_evenedByTwo_41 (by decide) ?_
          refine wp_iload dX10_evenedByTwo_43 rfl ?_
          refine wp_ifeq 50 dX10_evenedByTwo_45 (by decide) (by unfold InR; omega) (fun c45 => ?_) (fun c45 => ?_)
          · refine wp_aload_n dX10_evenedByTwo_50 rfl ?_
            refine wp_getC dX10_evenedByTwo_51 flX10_96 rfl rfl ?_
            refine wp_iload_n dX10_evenedByTwo_54 rfl ?_
            refine wp_iald dX10_evenedByTwo_55 (by first | rfl | exact gs1 hG | exact gs2 hG | exact gs3 hG | exact gs4 hG | exact ws1 hW | exact ws2 hW | assumption) (by omega) (by omega) ?_
            refine wp_aload_n dX10_evenedByTwo_56 rfl ?_
            refine wp_getC dX10_evenedByTwo_57 flX10_99 rfl rfl ?_
            refine wp_iload_n dX10_evenedByTwo_60 rfl ?_
            refine wp_iald dX10_evenedByTwo_61 (by first | rfl | exact gs1 hG | exact gs2 hG | exact gs3 hG | exact gs4 hG | exact ws1 hW | exact ws2 hW | assumption) (by omega) (by omega) ?_
            refine wp_imul dX10_evenedByTwo_62 ?_
            refine wp_aload_n dX10_evenedByTwo_63 rfl ?_
            refine wp_getC dX10_evenedByTwo_64 flX10_96 rfl rfl ?_
            refine wp_iload_n dX10_evenedByTwo_67 rfl ?_
            refine wp_iald dX10_evenedByTwo_68 (by first | rfl | exact gs1 hG | exact gs2 hG | exact gs3 hG | exact gs4 hG | exact ws1 hW | exact ws2 hW | assumption) (by omega) (by omega) ?_
            refine wp_aload_n dX10_evenedByTwo_69 rfl ?_
            refine wp_getC dX10_evenedByTwo_70 flX10_99 rfl rfl ?_
            refine wp_iload_n dX10_evenedByTwo_73 rfl ?_
            refine wp_iald dX10_evenedByTwo_74 (by first | rfl | exact gs1 hG | exact gs2 hG | exact gs3 hG | exact gs4 hG | exact ws1 hW | exact ws2 hW | assumption) (by omega) (by omega) ?_
            refine wp_imul dX10_evenedByTwo_75 ?_
            refine wp_isub dX10_evenedByTwo_76 ?_
            refine wp_istore dX10_evenedByTwo_77 (by decide) ?_
            refine wp_iload dX10_evenedByTwo_79 rfl ?_
            refine wp_ifne 94 dX10_evenedByTwo_81 (by decide) (by unfold InR; omega) (fun c81 => ?_) (fun c81 => ?_)
            · refine wp_aload_n dX10_evenedByTwo_94 rfl ?_
              refine wp_getC dX10_evenedByTwo_95 flX10_96 rfl rfl ?_
              refine wp_iload_n dX10_evenedByTwo_98 rfl ?_
              refine wp_iald dX10_evenedByTwo_99 (by first | rfl | exact gs1 hG | exact gs2 hG | exact gs3 hG | exact gs4 hG | exact ws1 hW | exact ws2 hW | assumption) (by omega) (by omega) ?_
              refine wp_iload dX10_evenedByTwo_100 rfl ?_
              refine wp_imul dX10_evenedByTwo_102 ?_
              refine wp_iload_n dX10_evenedByTwo_103 rfl ?_
              refine wp_aload_n dX10_evenedByTwo_104 rfl ?_
              refine wp_getC dX10_evenedByTwo_105 flX10_99 rfl rfl ?_
              refine wp_iload_n dX10_evenedByTwo_108 rfl ?_
              refine wp_iald dX10_evenedByTwo_109 (by first | rfl | exact gs1 hG | exact gs2 hG | exact gs3 hG | exact gs4 hG | exact ws1 hW | exact ws2 hW | assumption) (by omega) (by omega) ?_
              refine wp_imul dX10_evenedByTwo_110 ?_
              refine wp_isub dX10_evenedByTwo_111 ?_
              refine wp_iload dX10_evenedByTwo_112 rfl ?_
              refine wp_idiv dX10_evenedByTwo_114 (by unfold InR; omega) (by unfold InR; omega) (by omega) (by unfold InR; omega) ?_
              refine wp_istore dX10_evenedByTwo_115 (by decide) ?_
              refine wp_iload_n dX10_evenedByTwo_117 rfl ?_
              refine wp_aload_n dX10_evenedByTwo_118 rfl ?_
              refine wp_getC dX10_evenedByTwo_119 flX10_99 rfl rfl ?_
              refine wp_iload_n dX10_evenedByTwo_122 rfl ?_
              refine wp_iald dX10_evenedByTwo_123 (by first | rfl | exact gs1 hG | exact gs2 hG | exact gs3 hG | exact gs4 hG | exact ws1 hW | exact ws2 hW | assumption) (by omega) (by omega) ?_
              refine wp_imul dX10_evenedByTwo_124 ?_
              refine wp_aload_n dX10_evenedByTwo_125 rfl ?_
              refine wp_getC dX10_evenedByTwo_126 flX10_96 rfl rfl ?_
              refine wp_iload_n dX10_evenedByTwo_129 rfl ?_
              refine wp_iald dX10_evenedByTwo_130 (by first | rfl | exact gs1 hG | exact gs2 hG | exact gs3 hG | exact gs4 hG | exact ws1 hW | exact ws2 hW | assumption) (by omega) (by omega) ?_
              refine wp_iload dX10_evenedByTwo_131 rfl ?_
              refine wp_imul dX10_evenedByTwo_133 ?_
              refine wp_isub dX10_evenedByTwo_134 ?_
              refine wp_iload dX10_evenedByTwo_135 rfl ?_
              refine wp_idiv dX10_evenedByTwo_137 (by unfold InR; omega) (by unfold InR; omega) (by omega) (by unfold InR; omega) ?_
              refine wp_istore dX10_evenedByTwo_138 (by decide) ?_
              refine wp_aload_n dX10_evenedByTwo_140 rfl ?_
              refine wp_getC dX10_evenedByTwo_141 flX10_96 rfl rfl ?_
              refine wp_iload_n dX10_evenedByTwo_144 rfl ?_
              refine wp_iald dX10_evenedByTwo_145 (by first | rfl | exact gs1 hG | exact gs2 hG | exact gs3 hG | exact gs4 hG | exact ws1 hW | exact ws2 hW | assumption) (by omega) (by omega) ?_
              refine wp_iload dX10_evenedByTwo_146 rfl ?_
              refine wp_imul dX10_evenedByTwo_148 ?_
              refine wp_aload_n dX10_evenedByTwo_149 rfl ?_
              refine wp_getC dX10_evenedByTwo_150 flX10_96 rfl rfl ?_
              refine wp_iload_n dX10_evenedByTwo_153 rfl ?_
              refine wp_iald dX10_evenedByTwo_154 (by first | rfl | exact gs1 hG | exact gs2 hG | exact gs3 hG | exact gs4 hG | exact ws1 hW | exact ws2 hW | assumption) (by omega) (by omega) ?_
              refine wp_iload dX10_evenedByTwo_155 rfl ?_
              refine wp_imul dX10_evenedByTwo_157 ?_
              refine wp_iadd dX10_evenedByTwo_158 ?_
              refine wp_iload_n dX10_evenedByTwo_159 rfl ?_
              refine wp_ineg dX10_evenedByTwo_160 ?_
              refine wp_icmpne 227 dX10_evenedByTwo_161 (by decide) (by unfold InR; omega) (by unfold InR; omega) (fun c161 => ?_) (fun c161 => ?_)
              · refine wp_iconst dX10_evenedByTwo_227 ?_
                exact wp_zret dX10_evenedByTwo_228 rfl (by omega) (⟨by
      first
        | (exfalso; omega)
        | exact vb1 (by unfold twB; rw [if_neg (by omega), Bool.and_eq_true, decide_eq_true_iff, decide_eq_true_iff]; exact ⟨by omega, by omega, by omega, by omega, by omega⟩)
        | exact vb0 (fun z => by unfold twB at z; rw [if_neg (by omega), Bool.and_eq_true, decide_eq_true_iff, decide_eq_true_iff] at z; have z2 := z.2; omega), rfl⟩)
              · refine wp_aload_n dX10_evenedByTwo_164 rfl ?_
                refine wp_getC dX10_evenedByTwo_165 flX10_99 rfl rfl ?_
                refine wp_iload_n dX10_evenedByTwo_168 rfl ?_
                refine wp_iald dX10_evenedByTwo_169 (by first | rfl | exact gs1 hG | exact gs2 hG | exact gs3 hG | exact gs4 hG | exact ws1 hW | exact ws2 hW | assumption) (by omega) (by omega) ?_
                refine wp_iload dX10_evenedByTwo_170 rfl ?_
                refine wp_imul dX10_evenedByTwo_172 ?_
                refine wp_aload_n dX10_evenedByTwo_173 rfl ?_
                refine wp_getC dX10_evenedByTwo_174 flX10_99 rfl rfl ?_
                refine wp_iload_n dX10_evenedByTwo_177 rfl ?_
                refine wp_iald dX10_evenedByTwo_178 (by first | rfl | exact gs1 hG | exact gs2 hG | exact gs3 hG | exact gs4 hG | exact ws1 hW | exact ws2 hW | assumption) (by omega) (by omega) ?_
                refine wp_iload dX10_evenedByTwo_179 rfl ?_
                refine wp_imul dX10_evenedByTwo_181 ?_
                refine wp_iadd dX10_evenedByTwo_182 ?_
                refine wp_iload dX10_evenedByTwo_183 rfl ?_
                refine wp_ineg dX10_evenedByTwo_185 ?_
                refine wp_icmpne 227 dX10_evenedByTwo_186 (by decide) (by unfold InR; omega) (by unfold InR; omega) (fun c186 => ?_) (fun c186 => ?_)
                · refine wp_iconst dX10_evenedByTwo_227 ?_
                  exact wp_zret dX10_evenedByTwo_228 rfl (by omega) (⟨by
      first
        | (exfalso; omega)
        | exact vb1 (by unfold twB; rw [if_neg (by omega), Bool.and_eq_true, decide_eq_true_iff, decide_eq_true_iff]; exact ⟨by omega, by omega, by omega, by omega, by omega⟩)
        | exact vb0 (fun z => by unfold twB at z; rw [if_neg (by omega), Bool.and_eq_true, decide_eq_true_iff, decide_eq_true_iff] at z; have z2 := z.2; omega), rfl⟩)
                · refine wp_aload_n dX10_evenedByTwo_189 rfl ?_
                  refine wp_getM dX10_evenedByTwo_190 flX10_46 rfl rfl ?_
                  refine wp_iload_n dX10_evenedByTwo_193 rfl ?_
                  refine wp_callVp dX10_evenedByTwo_194 mlX10_159 mvX3_heightOf (S_X3_heightOf g (by first | assumption | (unfold InR; omega))) rfl rfl (by decide) (by decide) (gs0 hG) rfl rfl (Nat.le_of_ble_eq_true rfl) ?_
                  refine wp_iload dX10_evenedByTwo_197 rfl ?_
                  refine wp_iadd dX10_evenedByTwo_199 ?_
                  refine wp_callSp dX10_evenedByTwo_200 mlX10_253 msX10_isTold (S_X10_isTold (by first | assumption | (unfold InR; omega))) rfl rfl (by decide) (by decide) (Nat.le_of_ble_eq_true rfl) ?_
                  refine wp_ifeqb 227 dX10_evenedByTwo_203 (by decide) (fun c203 => ?_) (fun c203 => ?_)
                  · refine wp_iconst dX10_evenedByTwo_227 ?_
                    exact wp_zret dX10_evenedByTwo_228 rfl (by omega) (⟨by
      first
        | (exfalso; omega)
        | exact vb1 (by unfold twB; rw [if_neg (by omega), Bool.and_eq_true, decide_eq_true_iff, decide_eq_true_iff]; exact ⟨by omega, by omega, by omega, by omega, by omega⟩)
        | exact vb0 (fun z => by unfold twB at z; rw [if_neg (by omega), Bool.and_eq_true, decide_eq_true_iff, decide_eq_true_iff] at z; have z2 := z.2; omega), rfl⟩)
                  · refine wp_aload_n dX10_evenedByTwo_206 rfl ?_
                    refine wp_getM dX10_evenedByTwo_207 flX10_46 rfl rfl ?_
                    refine wp_iload_n dX10_evenedByTwo_210 rfl ?_
                    refine wp_callVp dX10_evenedByTwo_211 mlX10_159 mvX3_heightOf (S_X3_heightOf g (by first | assumption | (unfold InR; omega))) rfl rfl (by decide) (by decide) (gs0 hG) rfl rfl (Nat.le_of_ble_eq_true rfl) ?_
                    refine wp_iload dX10_evenedByTwo_214 rfl ?_
                    refine wp_iadd dX10_evenedByTwo_216 ?_
                    refine wp_callSp dX10_evenedByTwo_217 mlX10_253 msX10_isTold (S_X10_isTold (by first | assumption | (unfold InR; omega))) rfl rfl (by decide) (by decide) (Nat.le_of_ble_eq_true rfl) ?_
                    refine wp_ifeqb 227 dX10_evenedByTwo_220 (by decide) (fun c220 => ?_) (fun c220 => ?_)
                    · refine wp_iconst dX10_evenedByTwo_227 ?_
                      exact wp_zret dX10_evenedByTwo_228 rfl (by omega) (⟨by
      first
        | (exfalso; omega)
        | exact vb1 (by unfold twB; rw [if_neg (by omega), Bool.and_eq_true, decide_eq_true_iff, decide_eq_true_iff]; exact ⟨by omega, by omega, by omega, by omega, by omega⟩)
        | exact vb0 (fun z => by unfold twB at z; rw [if_neg (by omega), Bool.and_eq_true, decide_eq_true_iff, decide_eq_true_iff] at z; have z2 := z.2; omega), rfl⟩)
                    · refine wp_iconst dX10_evenedByTwo_223 ?_
                      refine wp_goto 228 dX10_evenedByTwo_224 (by decide) ?_
                      exact wp_zret dX10_evenedByTwo_228 rfl (by omega) (⟨by
      first
        | (exfalso; omega)
        | exact vb1 (by unfold twB; rw [if_neg (by omega), Bool.and_eq_true, decide_eq_true_iff, decide_eq_true_iff]; exact ⟨by omega, by omega, by omega, by omega, by omega⟩)
        | exact vb0 (fun z => by unfold twB at z; rw [if_neg (by omega), Bool.and_eq_true, decide_eq_true_iff, decide_eq_true_iff] at z; have z2 := z.2; omega), rfl⟩)
            · refine wp_aload_n dX10_evenedByTwo_84 rfl ?_
              refine wp_iload_n dX10_evenedByTwo_85 rfl ?_
              refine wp_iload_n dX10_evenedByTwo_86 rfl ?_
              refine wp_iload_n dX10_evenedByTwo_87 rfl ?_
              refine wp_iload dX10_evenedByTwo_88 rfl ?_
              refine wp_callVp dX10_evenedByTwo_90 mlX10_274 mvX10_evenedAlongOneLine (S_X10_evenedAlongOneLine g sb hq ha hb hs) rfl rfl (by decide) (by decide) rfl rfl rfl (Nat.le_of_ble_eq_true rfl) ?_
              exact wp_zret dX10_evenedByTwo_93 rfl b2i_z (⟨vi (b2i_congr (by unfold twB; rw [if_pos (by omega), decide_eq_true (by omega), Bool.true_and])), rfl⟩)
          · refine wp_iconst dX10_evenedByTwo_48 ?_
            exact wp_zret dX10_evenedByTwo_49 rfl (by omega) (⟨vb0 (fun z => by unfold twB at z; rw [Bool.and_eq_true, decide_eq_true_iff] at z; have := z.1; omega), rfl⟩)

