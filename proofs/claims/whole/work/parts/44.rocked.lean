/-! ROCKED -/
def nrw (b s g : Int) (r : Int × Int) : Int × Int := if s = 0 then (if sgn b = g then r else (r.1, -1)) else if g = 0 then (max r.1 (-b * s), min r.2 (-b * s)) else if g = s then (max r.1 (-b * s + 1), r.2) else (r.1, min r.2 (-b * s - 1))
def rngA (w : Int) (r : Int × Int) : Int := if w = 0 then max 0 (r.2 - r.1 + 1) else if r.2 < r.1 then -1 else if w = 1 then r.1 else r.2
def RK (h h' : Hp) : Prop := (∀ c j, ¬ (c = 30 ∧ (j = 3 ∨ j = 4)) → hI h' c j = hI h c j) ∧ h'.2 = h.2
theorem RK.rf (h : Hp) : RK h h := ⟨fun _ _ _ => rfl, rfl⟩
theorem RK.tr {h h1 h2 : Hp} (a : RK h h1) (b : RK h1 h2) : RK h h2 := ⟨fun c j q => (b.1 c j q).trans (a.1 c j q), b.2.trans a.2⟩
theorem RK.put {h : Hp} {j : Nat} {v : Int} (hj : j = 3 ∨ j = 4) : RK h (sI h 30 j v) := ⟨fun c k q => by rw [hI_sI, if_neg (by omega)], rfl⟩
theorem RK.M {h h' : Hp} (r : RK h h') : sameM h h' := fun c hc => ⟨funext fun j => r.1 c j (by omega), by rw [r.2], by rw [r.2]⟩
theorem AC.rk {h h' : Hp} {σ : Sg} (a : AC h σ) (o : SOK σ) (r : RK h h') : AC h' σ := a.keep o (fun c j q => r.1 c j (by unfold rs at q; omega)) (by unfold hR; rw [r.2]) (by unfold hR; rw [r.2])
theorem sgn_s {s : Int} (h : s = -1 ∨ s = 0 ∨ s = 1) : sgn s = s := by rcases h with rfl | rfl | rfl <;> rfl

set_option maxRecDepth 20000 in
theorem S_X5_turningOf {X : Cx} {h : Hp} {i : Int} (hs : hI h 30 2 ≤ 20) (hi : 0 ≤ i ∧ i < hI h 30 2) : Spec X mX5_turningOf 0 [.ref (adr X 30), .int (iI i)] h (fun rv h' => rv = some (.int (iI (hI h 31 i.toNat))) ∧ h' = h) := by
  refine spec_wp (Nat.le_of_ble_eq_true rfl) (by decide +kernel) ?_
  refine wp_loc [(0, .ref (adr X 30)), (1, .int (iI i))] ⟨rfl, rfl, trivial⟩ ?_
  refine wp_iload_n dX5_turningOf_0 rfl ?_
  refine wp_iflt 27 dX5_turningOf_1 (by decide) (by unfold InR; omega) (fun c1 => ?_) (fun c1 => ?_)
  · exact absurd c1 (by omega)
  · refine wp_iload_n dX5_turningOf_4 rfl ?_
    refine wp_aload_n dX5_turningOf_5 rfl ?_
    refine wp_getI dX5_turningOf_6 flX5_18 rfl rfl ?_
    refine wp_icmpge 27 dX5_turningOf_9 (by decide) (by unfold InR; omega) (by unfold InR; omega) (fun c9 => ?_) (fun c9 => ?_)
    · exact absurd c9 (by omega)
    · refine wp_iload_n dX5_turningOf_12 rfl ?_
      refine wp_bipush dX5_turningOf_13 rfl ?_
      refine wp_icmpge 27 dX5_turningOf_15 (by decide) (by unfold InR; omega) (by unfold InR; omega) (fun c15 => ?_) (fun c15 => ?_)
      · exact absurd c15 (by omega)
      · refine wp_aload_n dX5_turningOf_18 rfl ?_
        refine wp_getC dX5_turningOf_19 flX5_11 rfl rfl ?_
        refine wp_iload_n dX5_turningOf_22 rfl ?_
        refine wp_iald dX5_turningOf_23 (by first | rfl | exact gs1 hG | exact gs2 hG | exact gs3 hG | exact gs4 hG | exact ws1 hW | exact ws2 hW | assumption) (by omega) (by omega) ?_
        refine wp_goto 28 dX5_turningOf_24 (by decide) ?_
        exact wp_iret dX5_turningOf_28 rfl (⟨rfl, rfl⟩)

set_option maxRecDepth 20000 in
theorem S_X5_signOf {X : Cx} {h : Hp} {i : Int} (hs : hI h 30 2 ≤ 20) (hi : 0 ≤ i ∧ i < hI h 30 2) : Spec X mX5_signOf 0 [.ref (adr X 30), .int (iI i)] h (fun rv h' => rv = some (.int (iI (hI h 32 i.toNat))) ∧ h' = h) := by
  refine spec_wp (Nat.le_of_ble_eq_true rfl) (by decide +kernel) ?_
  refine wp_loc [(0, .ref (adr X 30)), (1, .int (iI i))] ⟨rfl, rfl, trivial⟩ ?_
  refine wp_iload_n dX5_signOf_0 rfl ?_
  refine wp_iflt 27 dX5_signOf_1 (by decide) (by unfold InR; omega) (fun c1 => ?_) (fun c1 => ?_)
  · exact absurd c1 (by omega)
  · refine wp_iload_n dX5_signOf_4 rfl ?_
    refine wp_aload_n dX5_signOf_5 rfl ?_
    refine wp_getI dX5_signOf_6 flX5_18 rfl rfl ?_
    refine wp_icmpge 27 dX5_signOf_9 (by decide) (by unfold InR; omega) (by unfold InR; omega) (fun c9 => ?_) (fun c9 => ?_)
    · exact absurd c9 (by omega)
    · refine wp_iload_n dX5_signOf_12 rfl ?_
      refine wp_bipush dX5_signOf_13 rfl ?_
      refine wp_icmpge 27 dX5_signOf_15 (by decide) (by unfold InR; omega) (by unfold InR; omega) (fun c15 => ?_) (fun c15 => ?_)
      · exact absurd c15 (by omega)
      · refine wp_aload_n dX5_signOf_18 rfl ?_
        refine wp_getC dX5_signOf_19 flX5_15 rfl rfl ?_
        refine wp_iload_n dX5_signOf_22 rfl ?_
        refine wp_iald dX5_signOf_23 (by first | rfl | exact gs1 hG | exact gs2 hG | exact gs3 hG | exact gs4 hG | exact ws1 hW | exact ws2 hW | assumption) (by omega) (by omega) ?_
        refine wp_goto 28 dX5_signOf_24 (by decide) ?_
        exact wp_iret dX5_signOf_28 rfl (⟨rfl, rfl⟩)

set_option maxRecDepth 20000 in
theorem S_X5_startRange {X : Cx} {h : Hp}  : Spec X mX5_startRange 0 [.ref (adr X 30)] h (fun rv h' => rv = none ∧ RK h h' ∧ hI h' 30 3 = 0 ∧ hI h' 30 4 = 99) := by
  refine spec_wp (Nat.le_of_ble_eq_true rfl) (by decide +kernel) ?_
  refine wp_loc [(0, .ref (adr X 30))] ⟨rfl, trivial⟩ ?_
  refine wp_aload_n dX5_startRange_0 rfl ?_
  refine wp_iconst dX5_startRange_1 ?_
  refine wp_putI dX5_startRange_2 plX5_22 rfl rfl ?_
  refine wp_aload_n dX5_startRange_5 rfl ?_
  refine wp_bipush dX5_startRange_6 rfl ?_
  refine wp_putI dX5_startRange_8 plX5_25 rfl rfl ?_
  exact wp_ret dX5_startRange_11 rfl (⟨rfl, (RK.put (by omega)).tr (RK.put (by omega)), by rw [hI_sI, if_neg (by decide), hI_sI, if_pos ⟨rfl, rfl⟩], by rw [hI_sI, if_pos ⟨rfl, rfl⟩]⟩)

set_option maxRecDepth 20000 in
theorem S_X5_narrow {X : Cx} {h : Hp} {b s g : Int} (hb : -1000 ≤ b ∧ b ≤ 1000) (hs : -1 ≤ s ∧ s ≤ 1) (hg : -1 ≤ g ∧ g ≤ 1) (hr : -3000 ≤ hI h 30 3 ∧ hI h 30 3 ≤ 3000 ∧ -3000 ≤ hI h 30 4 ∧ hI h 30 4 ≤ 3000) : Spec X mX5_narrow 1 [.ref (adr X 30), .int (iI b), .int (iI s), .int (iI g)] h (fun rv h' => rv = none ∧ RK h h' ∧ hI h' 30 3 = (nrw b s g (hI h 30 3, hI h 30 4)).1 ∧ hI h' 30 4 = (nrw b s g (hI h 30 3, hI h 30 4)).2) := by
  have sb := sgn_b b
  have eb : -1000 ≤ -b * s ∧ -b * s ≤ 1000 := by
    rcases (show s = -1 ∨ s = 0 ∨ s = 1 by omega) with q | q | q <;> rw [q] <;> omega
  refine spec_wp (Nat.le_of_ble_eq_true rfl) (by decide +kernel) ?_
  refine wp_loc [(0, .ref (adr X 30)), (1, .int (iI b)), (2, .int (iI s)), (3, .int (iI g))] ⟨rfl, rfl, rfl, rfl, trivial⟩ ?_
  refine wp_iload_n dX5_narrow_0 rfl ?_
  refine wp_ifne 18 dX5_narrow_1 (by decide) (by unfold InR; omega) (fun c1 => ?_) (fun c1 => ?_)
  · refine wp_iload_n dX5_narrow_18 rfl ?_
    refine wp_ineg dX5_narrow_19 ?_
    refine wp_iload_n dX5_narrow_20 rfl ?_
    refine wp_imul dX5_narrow_21 ?_
    generalize he : -b * s = e at eb
    refine wp_istore dX5_narrow_22 (by decide) ?_
    refine wp_iload_n dX5_narrow_24 rfl ?_
    refine wp_ifne 57 dX5_narrow_25 (by decide) (by unfold InR; omega) (fun c25 => ?_) (fun c25 => ?_)
    · refine wp_iload_n dX5_narrow_57 rfl ?_
      refine wp_iload_n dX5_narrow_58 rfl ?_
      refine wp_icmpne 80 dX5_narrow_59 (by decide) (by unfold InR; omega) (by unfold InR; omega) (fun c59 => ?_) (fun c59 => ?_)
      · refine wp_aload_n dX5_narrow_80 rfl ?_
        refine wp_aload_n dX5_narrow_81 rfl ?_
        refine wp_getI dX5_narrow_82 flX5_25 rfl rfl ?_
        refine wp_iload dX5_narrow_85 rfl ?_
        refine wp_iconst dX5_narrow_87 ?_
        refine wp_isub dX5_narrow_88 ?_
        refine wp_callSp dX5_narrow_89 mlX5_40 msJ9_min_7cf53 (S_J9_min_7cf53 (by unfold InR; omega) (by unfold InR; omega)) rfl rfl (by decide) (by decide) (Nat.le_of_ble_eq_true rfl) ?_
        refine wp_putI dX5_narrow_92 plX5_25 rfl rfl ?_
        exact wp_ret dX5_narrow_95 rfl (⟨rfl, by first | exact (RK.put (by omega)).tr (RK.put (by omega)) | exact RK.put (by omega), by
      unfold nrw
      rw [if_neg (by omega), he]
      first
        | (rw [if_pos (by omega), hI_sI, if_neg (by decide), hI_sI, if_pos ⟨rfl, rfl⟩]; done)
        | (rw [if_neg (by omega), if_pos (by omega), hI_sI, if_pos ⟨rfl, rfl⟩]; done)
        | (rw [if_neg (by omega), if_neg (by omega), hI_sI, if_neg (by decide)]; done), by
      unfold nrw
      rw [if_neg (by omega), he]
      first
        | (rw [if_pos (by omega), hI_sI, if_pos ⟨rfl, rfl⟩]; done)
        | (rw [if_neg (by omega), if_pos (by omega), hI_sI, if_neg (by decide)]; done)
        | (rw [if_neg (by omega), if_neg (by omega), hI_sI, if_pos ⟨rfl, rfl⟩]; done)⟩)
      · refine wp_aload_n dX5_narrow_62 rfl ?_
        refine wp_aload_n dX5_narrow_63 rfl ?_
        refine wp_getI dX5_narrow_64 flX5_22 rfl rfl ?_
        refine wp_iload dX5_narrow_67 rfl ?_
        refine wp_iconst dX5_narrow_69 ?_
        refine wp_iadd dX5_narrow_70 ?_
        refine wp_callSp dX5_narrow_71 mlX5_34 msJ9_max_7cf53 (S_J9_max_7cf53 (by unfold InR; omega) (by unfold InR; omega)) rfl rfl (by decide) (by decide) (Nat.le_of_ble_eq_true rfl) ?_
        refine wp_putI dX5_narrow_74 plX5_22 rfl rfl ?_
        refine wp_goto 95 dX5_narrow_77 (by decide) ?_
        exact wp_ret dX5_narrow_95 rfl (⟨rfl, by first | exact (RK.put (by omega)).tr (RK.put (by omega)) | exact RK.put (by omega), by
      unfold nrw
      rw [if_neg (by omega), he]
      first
        | (rw [if_pos (by omega), hI_sI, if_neg (by decide), hI_sI, if_pos ⟨rfl, rfl⟩]; done)
        | (rw [if_neg (by omega), if_pos (by omega), hI_sI, if_pos ⟨rfl, rfl⟩]; done)
        | (rw [if_neg (by omega), if_neg (by omega), hI_sI, if_neg (by decide)]; done), by
      unfold nrw
      rw [if_neg (by omega), he]
      first
        | (rw [if_pos (by omega), hI_sI, if_pos ⟨rfl, rfl⟩]; done)
        | (rw [if_neg (by omega), if_pos (by omega), hI_sI, if_neg (by decide)]; done)
        | (rw [if_neg (by omega), if_neg (by omega), hI_sI, if_pos ⟨rfl, rfl⟩]; done)⟩)
    · refine wp_aload_n dX5_narrow_28 rfl ?_
      refine wp_aload_n dX5_narrow_29 rfl ?_
      refine wp_getI dX5_narrow_30 flX5_22 rfl rfl ?_
      refine wp_iload dX5_narrow_33 rfl ?_
      refine wp_callSp dX5_narrow_35 mlX5_34 msJ9_max_7cf53 (S_J9_max_7cf53 (by unfold InR; omega) (by unfold InR; omega)) rfl rfl (by decide) (by decide) (Nat.le_of_ble_eq_true rfl) ?_
      refine wp_putI dX5_narrow_38 plX5_22 rfl rfl ?_
      refine wp_aload_n dX5_narrow_41 rfl ?_
      refine wp_aload_n dX5_narrow_42 rfl ?_
      refine wp_getI dX5_narrow_43 flX5_25 rfl rfl ?_
      rw [hI_sI, if_neg (by decide)]
      refine wp_iload dX5_narrow_46 rfl ?_
      refine wp_callSp dX5_narrow_48 mlX5_40 msJ9_min_7cf53 (S_J9_min_7cf53 (by unfold InR; omega) (by unfold InR; omega)) rfl rfl (by decide) (by decide) (Nat.le_of_ble_eq_true rfl) ?_
      refine wp_putI dX5_narrow_51 plX5_25 rfl rfl ?_
      refine wp_goto 95 dX5_narrow_54 (by decide) ?_
      exact wp_ret dX5_narrow_95 rfl (⟨rfl, by first | exact (RK.put (by omega)).tr (RK.put (by omega)) | exact RK.put (by omega), by
      unfold nrw
      rw [if_neg (by omega), he]
      first
        | (rw [if_pos (by omega), hI_sI, if_neg (by decide), hI_sI, if_pos ⟨rfl, rfl⟩]; done)
        | (rw [if_neg (by omega), if_pos (by omega), hI_sI, if_pos ⟨rfl, rfl⟩]; done)
        | (rw [if_neg (by omega), if_neg (by omega), hI_sI, if_neg (by decide)]; done), by
      unfold nrw
      rw [if_neg (by omega), he]
      first
        | (rw [if_pos (by omega), hI_sI, if_pos ⟨rfl, rfl⟩]; done)
        | (rw [if_neg (by omega), if_pos (by omega), hI_sI, if_neg (by decide)]; done)
        | (rw [if_neg (by omega), if_neg (by omega), hI_sI, if_pos ⟨rfl, rfl⟩]; done)⟩)
  · refine wp_iload_n dX5_narrow_4 rfl ?_
    refine wp_callSp dX5_narrow_5 mlX5_28 msJ6_signum_0f7a4 (S_J6_signum_0f7a4 (by first | assumption | (unfold InR; omega))) rfl rfl (by decide) (by decide) (Nat.le_of_ble_eq_true rfl) ?_
    refine wp_iload_n dX5_narrow_8 rfl ?_
    refine wp_icmpeq 17 dX5_narrow_9 (by decide) (by unfold InR; omega) (by unfold InR; omega) (fun c9 => ?_) (fun c9 => ?_)
    · exact wp_ret dX5_narrow_17 rfl (⟨rfl, by first | exact RK.put (by omega) | exact RK.rf h, by unfold nrw; rw [if_pos (by omega)]; first | (rw [if_pos (by omega)]; done) | (rw [if_neg (by omega), hI_sI, if_neg (by decide)]; done), by unfold nrw; rw [if_pos (by omega)]; first | (rw [if_pos (by omega)]; done) | (rw [if_neg (by omega), hI_sI, if_pos ⟨rfl, rfl⟩]; done)⟩)
    · refine wp_aload_n dX5_narrow_12 rfl ?_
      refine wp_iconst dX5_narrow_13 ?_
      refine wp_putI dX5_narrow_14 plX5_25 rfl rfl ?_
      exact wp_ret dX5_narrow_17 rfl (⟨rfl, by first | exact RK.put (by omega) | exact RK.rf h, by unfold nrw; rw [if_pos (by omega)]; first | (rw [if_pos (by omega)]; done) | (rw [if_neg (by omega), hI_sI, if_neg (by decide)]; done), by unfold nrw; rw [if_pos (by omega)]; first | (rw [if_pos (by omega)]; done) | (rw [if_neg (by omega), hI_sI, if_pos ⟨rfl, rfl⟩]; done)⟩)

set_option maxRecDepth 20000 in
theorem S_X5_rangeAnswer {X : Cx} {h : Hp} {w : Int} (hw : 0 ≤ w ∧ w ≤ 2) (hr : -3000 ≤ hI h 30 3 ∧ hI h 30 3 ≤ 3000 ∧ -3000 ≤ hI h 30 4 ∧ hI h 30 4 ≤ 3000) : Spec X mX5_rangeAnswer 1 [.ref (adr X 30), .int (iI w)] h (fun rv h' => rv = some (.int (iI (rngA w (hI h 30 3, hI h 30 4)))) ∧ h' = h) := by
  refine spec_wp (Nat.le_of_ble_eq_true rfl) (by decide +kernel) ?_
  refine wp_loc [(0, .ref (adr X 30)), (1, .int (iI w))] ⟨rfl, rfl, trivial⟩ ?_
  refine wp_iload_n dX5_rangeAnswer_0 rfl ?_
  refine wp_ifne 20 dX5_rangeAnswer_1 (by decide) (by unfold InR; omega) (fun c1 => ?_) (fun c1 => ?_)
  · refine wp_aload_n dX5_rangeAnswer_20 rfl ?_
    refine wp_getI dX5_rangeAnswer_21 flX5_25 rfl rfl ?_
    refine wp_aload_n dX5_rangeAnswer_24 rfl ?_
    refine wp_getI dX5_rangeAnswer_25 flX5_22 rfl rfl ?_
    refine wp_icmpge 33 dX5_rangeAnswer_28 (by decide) (by unfold InR; omega) (by unfold InR; omega) (fun c28 => ?_) (fun c28 => ?_)
    · refine wp_iload_n dX5_rangeAnswer_33 rfl ?_
      refine wp_iconst dX5_rangeAnswer_34 ?_
      refine wp_icmpne 45 dX5_rangeAnswer_35 (by decide) (by unfold InR; omega) (by unfold InR; omega) (fun c35 => ?_) (fun c35 => ?_)
      · refine wp_aload_n dX5_rangeAnswer_45 rfl ?_
        refine wp_getI dX5_rangeAnswer_46 flX5_25 rfl rfl ?_
        exact wp_iret dX5_rangeAnswer_49 rfl (⟨vi (by unfold rngA; rw [if_neg (by omega), if_neg (by dsimp only; omega)]; first | rw [if_pos (by omega)] | rw [if_neg (by omega)]), rfl⟩)
      · refine wp_aload_n dX5_rangeAnswer_38 rfl ?_
        refine wp_getI dX5_rangeAnswer_39 flX5_22 rfl rfl ?_
        refine wp_goto 49 dX5_rangeAnswer_42 (by decide) ?_
        exact wp_iret dX5_rangeAnswer_49 rfl (⟨vi (by unfold rngA; rw [if_neg (by omega), if_neg (by dsimp only; omega)]; first | rw [if_pos (by omega)] | rw [if_neg (by omega)]), rfl⟩)
    · refine wp_iconst dX5_rangeAnswer_31 ?_
      exact wp_iret dX5_rangeAnswer_32 rfl (⟨vi (by unfold rngA; rw [if_neg (by omega), if_pos (by dsimp only; omega)]), rfl⟩)
  · refine wp_iconst dX5_rangeAnswer_4 ?_
    refine wp_aload_n dX5_rangeAnswer_5 rfl ?_
    refine wp_getI dX5_rangeAnswer_6 flX5_25 rfl rfl ?_
    refine wp_aload_n dX5_rangeAnswer_9 rfl ?_
    refine wp_getI dX5_rangeAnswer_10 flX5_22 rfl rfl ?_
    refine wp_isub dX5_rangeAnswer_13 ?_
    refine wp_iconst dX5_rangeAnswer_14 ?_
    refine wp_iadd dX5_rangeAnswer_15 ?_
    refine wp_callSp dX5_rangeAnswer_16 mlX5_34 msJ9_max_7cf53 (S_J9_max_7cf53 (by unfold InR; omega) (by unfold InR; omega)) rfl rfl (by decide) (by decide) (Nat.le_of_ble_eq_true rfl) ?_
    exact wp_iret dX5_rangeAnswer_19 rfl (⟨vi (by unfold rngA; rw [if_pos (by omega)]), rfl⟩)

theorem nrw_b {b s g : Int} {r : Int × Int} (hb : -1000 ≤ b ∧ b ≤ 1000) (hs : -1 ≤ s ∧ s ≤ 1) (hr : -3000 ≤ r.1 ∧ r.1 ≤ 3000 ∧ -3000 ≤ r.2 ∧ r.2 ≤ 3000) : -3000 ≤ (nrw b s g r).1 ∧ (nrw b s g r).1 ≤ 3000 ∧ -3000 ≤ (nrw b s g r).2 ∧ (nrw b s g r).2 ≤ 3000 := by
  have eb : -1000 ≤ -b * s ∧ -b * s ≤ 1000 := by
    rcases (show s = -1 ∨ s = 0 ∨ s = 1 by omega) with q | q | q <;> rw [q] <;> omega
  unfold nrw
  generalize -b * s = e at eb
  (repeat' split) <;> (try dsimp only) <;> omega
def shF (G : Gdn) (l : Int) (q : Int × Int) (r : Int × Int) : Int × Int := nrw (gapF G q.1 - (if l % 2 = 0 then -1 else 1) * gS G l) (if l % 2 = 0 then -1 else 1) q.2 r
def htF (G : Gdn) (p : Int) (q : Int × Int) (r : Int × Int) : Int × Int := nrw (gapF G q.1 - slp (gP G) (gA G) q.1 p * gH G p) (slp (gP G) (gA G) q.1 p) q.2 r
def qShorts (σ : Sg) (l w : Int) : Int := if 0 < gP (sG σ) ∧ (0 ≤ l ∧ l < 4) ∧ 0 ≤ w ∧ w ≤ 2 then rngA w ((sR_ σ).foldl (fun r q => shF (sG σ) l q r) (0, 99)) else -1000000
def qHeights (σ : Sg) (p w : Int) : Int := if (0 ≤ p ∧ p < gP (sG σ)) ∧ 0 ≤ w ∧ w ≤ 2 then rngA w ((sR_ σ).foldl (fun r q => htF (sG σ) p q r) (0, 99)) else -1000000
def soB (G : Gdn) (A : Int) (q : Int × Int) : Bool := decide (sgn (gapA G A q.1) = q.2)
def anF (G : Gdn) (k : List (Int × Int)) : Nat → Int → Int → Int
  | 0, _, b => b
  | n + 1, A, b => anF G k n (A + 1) (if k.all (soB G A) = true then iOr b (iShl 1 A) else b)
def qAngles (σ : Sg) : Int := if gP (sG σ) = 0 then -1 else anF (sG σ) (sR_ σ) (gP (sG σ) / 2 - 1).toNat 1 0
theorem slp_b (P A p q : Int) : -1 ≤ slp P A p q ∧ slp P A p q ≤ 1 := by unfold slp; (repeat' split) <;> omega
/-- the i-th of ROCKED -/
theorem AC.rki {h : Hp} {σ : Sg} (a : AC h σ) (o : SOK σ) {i : Nat} (hi : (i : Int) < hI h 30 2) : ∃ q, (sR_ σ)[i]? = some q ∧ (sR_ σ).drop i = q :: (sR_ σ).drop (i + 1) ∧ hI h 31 i = q.1 ∧ hI h 32 i = q.2 ∧ (0 ≤ q.1 ∧ q.1 < gP (sG σ)) ∧ (-1 ≤ q.2 ∧ q.2 ≤ 1) := by
  obtain ⟨k1, k2⟩ := a.2.2.2.2.2.1
  have hl : i < (sR_ σ).length := by omega
  have hq : (sR_ σ)[i]? = some (sR_ σ)[i] := List.getElem?_eq_getElem hl
  have hm := o.2.2.2.2.1.2 _ (List.mem_of_getElem? hq)
  exact ⟨_, hq, List.drop_eq_getElem_cons hl, (k2 i _ hq).1, (k2 i _ hq).2, ⟨hm.1, hm.2.1⟩, hm.2.2⟩

set_option maxRecDepth 20000 in
theorem S_X10_shorts {X : Cx} {h : Hp} {σ : Sg} (a : AC h σ) (o : SOK σ) {l w : Int} (hl : InR l) (hw : InR w) : Spec X mX10_shorts 30 [.ref (adr X 0), .int (iI l), .int (iI w)] h (fun rv h' => rv = some (.int (iI (qShorts σ l w))) ∧ AC h' σ ∧ sameM h h') := by
  have g := a.gb o
  have hG := g.1
  have gk := o.2.2.2.1
  have gb := gk.b
  have gkb := gk.2.1
  have e4 : hI h (hR h 0 6) 4 = gP (sG σ) := a.2.2.2.2.1.1
  have e5 : hI h (hR h 0 6) 5 = gA (sG σ) := a.2.2.2.2.1.2.1
  have e6 : hI h (hR h 0 6) 6 = gK (sG σ) := a.2.2.2.2.1.2.2.1
  have he : hI h (hR h 0 6) 4 % 2 = 0 := by omega
  refine spec_wp (Nat.le_of_ble_eq_true rfl) (by decide +kernel) ?_
  refine wp_loc [(0, .ref (adr X 0)), (1, .int (iI l)), (2, .int (iI w))] ⟨rfl, rfl, rfl, trivial⟩ ?_
  refine wp_aload_n dX10_shorts_0 rfl ?_
  refine wp_callVp dX10_shorts_1 mlX10_148 mvX10_noGarden (S_X10_noGarden g) rfl rfl (by decide) (by decide) rfl rfl rfl (Nat.le_of_ble_eq_true rfl) ?_
  refine wp_ifneb 23 dX10_shorts_4 (by decide) (fun c4 => ?_) (fun c4 => ?_)
  · refine wp_ldc (z := -1000000) dX10_shorts_23 kcX10_181 ?_
    exact wp_iret dX10_shorts_25 rfl (⟨vi (by unfold qShorts; rw [if_neg (by omega)]), a, sameM_rf h⟩)
  · refine wp_iload_n dX10_shorts_7 rfl ?_
    refine wp_callSp dX10_shorts_8 mlX10_162 msX10_isLeg (S_X10_isLeg (by first | assumption | (unfold InR; omega))) rfl rfl (by decide) (by decide) (Nat.le_of_ble_eq_true rfl) ?_
    refine wp_ifeqb 23 dX10_shorts_11 (by decide) (fun c11 => ?_) (fun c11 => ?_)
    · refine wp_ldc (z := -1000000) dX10_shorts_23 kcX10_181 ?_
      exact wp_iret dX10_shorts_25 rfl (⟨vi (by unfold qShorts; rw [if_neg (by omega)]), a, sameM_rf h⟩)
    · refine wp_iload_n dX10_shorts_14 rfl ?_
      refine wp_iflt 23 dX10_shorts_15 (by decide) (by first | assumption | (unfold InR; omega)) (fun c15 => ?_) (fun c15 => ?_)
      · refine wp_ldc (z := -1000000) dX10_shorts_23 kcX10_181 ?_
        exact wp_iret dX10_shorts_25 rfl (⟨vi (by unfold qShorts; rw [if_neg (by omega)]), a, sameM_rf h⟩)
      · refine wp_iload_n dX10_shorts_18 rfl ?_
        refine wp_iconst dX10_shorts_19 ?_
        refine wp_icmple 26 dX10_shorts_20 (by decide) (by first | assumption | (unfold InR; omega)) (by first | assumption | (unfold InR; omega)) (fun c20 => ?_) (fun c20 => ?_)
        · refine wp_iload_n dX10_shorts_26 rfl ?_
          refine wp_iconst dX10_shorts_27 ?_
          refine wp_iremp dX10_shorts_28 (by omega) (by omega) (by unfold InR; omega) (by unfold InR; omega) ?_
          refine wp_ifne 36 dX10_shorts_29 (by decide) (by first | assumption | (unfold InR; omega)) (fun c29 => ?_) (fun c29 => ?_)
          · refine wp_iconst dX10_shorts_36 ?_
            obtain ⟨s, hsd⟩ : ∃ s : Int, s = if l % 2 = 0 then -1 else 1 := ⟨_, rfl⟩
            have hsv : s = -1 ∨ s = 1 := by rw [hsd]; split <;> omega
            first
              | rw [show (-1 : Int) = s by rw [hsd, if_pos (by omega)]]
              | rw [show (1 : Int) = s by rw [hsd, if_neg (by omega)]]
            refine wp_istore_n dX10_shorts_37 (by decide) ?_
            refine wp_aload_n dX10_shorts_38 rfl ?_
            refine wp_getC dX10_shorts_39 flX10_56 rfl rfl ?_
            refine wp_callV dX10_shorts_42 mlX10_279 mvX5_startRange (S_X5_startRange) rfl rfl (by decide) (by decide) rfl rfl rfl (Nat.le_of_ble_eq_true rfl) ?_
            rintro rv h1 ⟨rfl, rk, r3, r4⟩
            have a := a.rk o rk
            have s1 := rk.M
            refine wp_iconst dX10_shorts_45 ?_
            refine wp_istore dX10_shorts_46 (by decide) ?_
            obtain ⟨V, hV0⟩ : ∃ V : Int, V = qShorts σ l w := ⟨_, rfl⟩
            rw [← hV0]
            unfold qShorts at hV0
            rw [if_pos (by omega)] at hV0
            have L : ∀ (n : Nat) (i : Nat) (h1 : Hp), ((i : Int) + n = (sR_ σ).length) → (AC h1 σ) → (sameM h h1) → (-3000 ≤ hI h1 30 3 ∧ hI h1 30 3 ≤ 3000 ∧ -3000 ≤ hI h1 30 4 ∧ hI h1 30 4 ≤ 3000) → (V = rngA w (((sR_ σ).drop i).foldl (fun r q => shF (sG σ) l q r) (hI h1 30 3, hI h1 30 4))) → WP X mX10_shorts 30 48 [(0, .ref (adr X 0)), (1, .int (iI l)), (2, .int (iI w)), (3, .int (iI s)), (4, .int (iI (i : Nat)))] [] h1 (fun rv h' => rv = some (.int (iI V)) ∧ AC h' σ ∧ sameM h h') := by
              intro n
              induction n with
              | zero =>
                intro i h1 hn a s1 hrb hV
                have g := a.gb o
                have hG := g.1
                have gk := o.2.2.2.1
                have gb := gk.b
                have gkb := gk.2.1
                have e4 : hI h1 (hR h1 0 6) 4 = gP (sG σ) := a.2.2.2.2.1.1
                have e5 : hI h1 (hR h1 0 6) 5 = gA (sG σ) := a.2.2.2.2.1.2.1
                have e6 : hI h1 (hR h1 0 6) 6 = gK (sG σ) := a.2.2.2.2.1.2.2.1
                have he : hI h1 (hR h1 0 6) 4 % 2 = 0 := by omega
                have kl := o.2.2.2.2.1.1
                have k1 := a.2.2.2.2.2.1.1
                refine wp_iload dX10_shorts_48 rfl ?_
                refine wp_aload_n dX10_shorts_50 rfl ?_
                refine wp_getC dX10_shorts_51 flX10_56 rfl rfl ?_
                refine wp_getI dX10_shorts_54 flX10_128 rfl rfl ?_
                refine wp_icmpge 114 dX10_shorts_57 (by decide) (by unfold InR; omega) (by unfold InR; omega) (fun c57 => ?_) (fun c57 => ?_)
                · refine wp_aload_n dX10_shorts_114 rfl ?_
                  refine wp_getC dX10_shorts_115 flX10_56 rfl rfl ?_
                  refine wp_iload_n dX10_shorts_118 rfl ?_
                  refine wp_callVp dX10_shorts_119 mlX10_292 mvX5_rangeAnswer (S_X5_rangeAnswer (by omega) (by omega)) rfl rfl (by decide) (by decide) rfl rfl rfl (Nat.le_of_ble_eq_true rfl) ?_
                  exact wp_iret dX10_shorts_122 rfl (⟨vi (by rw [hV, List.drop_eq_nil_of_le (by omega)]; rfl), a, s1⟩)
                · exact absurd c57 (by omega)
              | succ n ih =>
                intro i h1 hn a s1 hrb hV
                have g := a.gb o
                have hG := g.1
                have gk := o.2.2.2.1
                have gb := gk.b
                have gkb := gk.2.1
                have e4 : hI h1 (hR h1 0 6) 4 = gP (sG σ) := a.2.2.2.2.1.1
                have e5 : hI h1 (hR h1 0 6) 5 = gA (sG σ) := a.2.2.2.2.1.2.1
                have e6 : hI h1 (hR h1 0 6) 6 = gK (sG σ) := a.2.2.2.2.1.2.2.1
                have he : hI h1 (hR h1 0 6) 4 % 2 = 0 := by omega
                have kl := o.2.2.2.2.1.1
                have k1 := a.2.2.2.2.2.1.1
                refine wp_iload dX10_shorts_48 rfl ?_
                refine wp_aload_n dX10_shorts_50 rfl ?_
                refine wp_getC dX10_shorts_51 flX10_56 rfl rfl ?_
                refine wp_getI dX10_shorts_54 flX10_128 rfl rfl ?_
                refine wp_icmpge 114 dX10_shorts_57 (by decide) (by unfold InR; omega) (by unfold InR; omega) (fun c57 => ?_) (fun c57 => ?_)
                · exact absurd c57 (by omega)
                · have ii : ((i : Nat) : Int).toNat = i := by omega
                  obtain ⟨q, q1, q2, q3, q4, q5, q6⟩ := a.rki o (i := i) (by omega)
                  have vb := gapF_b gk q.1
                  have sbl := gk.s l
                  have eS : shO h1 (hR h1 0 6) = gS (sG σ) := a.2.2.2.2.1.2.2.2.2.2.1
                  have sm : -99 ≤ s * gS (sG σ) l ∧ s * gS (sG σ) l ≤ 99 := by rcases hsv with z | z <;> rw [z] <;> omega
                  refine wp_aload_n dX10_shorts_60 rfl ?_
                  refine wp_getM dX10_shorts_61 flX10_46 rfl rfl ?_
                  refine wp_aload_n dX10_shorts_64 rfl ?_
                  refine wp_getC dX10_shorts_65 flX10_56 rfl rfl ?_
                  refine wp_iload dX10_shorts_68 rfl ?_
                  refine wp_callVp dX10_shorts_70 mlX10_282 mvX5_turningOf (S_X5_turningOf (by omega) (by omega)) rfl rfl (by decide) (by decide) rfl rfl rfl (Nat.le_of_ble_eq_true rfl) ?_
                  rw [ii, q3]
                  refine wp_callVp dX10_shorts_73 mlX10_182 mvX3_gapAt (S_X3_gapAt g (by assumption) (by omega) (by omega)) rfl rfl (by decide) (by decide) (gs0 hG) rfl rfl (Nat.le_of_ble_eq_true rfl) ?_
                  rw [a.gap o q5]
                  refine wp_iload_n dX10_shorts_76 rfl ?_
                  refine wp_aload_n dX10_shorts_77 rfl ?_
                  refine wp_getM dX10_shorts_78 flX10_46 rfl rfl ?_
                  refine wp_iload_n dX10_shorts_81 rfl ?_
                  refine wp_callVp dX10_shorts_82 mlX10_165 mvX3_shortOf (S_X3_shortOf g (by first | assumption | (unfold InR; omega))) rfl rfl (by decide) (by decide) (gs0 hG) rfl rfl (Nat.le_of_ble_eq_true rfl) ?_
                  refine wp_imul dX10_shorts_85 ?_
                  refine wp_isub dX10_shorts_86 ?_
                  rw [eS]
                  refine wp_istore dX10_shorts_87 (by decide) ?_
                  refine wp_aload_n dX10_shorts_89 rfl ?_
                  refine wp_getC dX10_shorts_90 flX10_56 rfl rfl ?_
                  refine wp_iload dX10_shorts_93 rfl ?_
                  refine wp_iload_n dX10_shorts_95 rfl ?_
                  refine wp_aload_n dX10_shorts_96 rfl ?_
                  refine wp_getC dX10_shorts_97 flX10_56 rfl rfl ?_
                  refine wp_iload dX10_shorts_100 rfl ?_
                  refine wp_callVp dX10_shorts_102 mlX10_285 mvX5_signOf (S_X5_signOf (by omega) (by omega)) rfl rfl (by decide) (by decide) rfl rfl rfl (Nat.le_of_ble_eq_true rfl) ?_
                  rw [ii, q4]
                  refine wp_callV dX10_shorts_105 mlX10_288 mvX5_narrow (S_X5_narrow (by omega) (by omega) (by omega) (by omega)) rfl rfl (by decide) (by decide) rfl rfl rfl (Nat.le_of_ble_eq_true rfl) ?_
                  rintro rv h2 ⟨rfl, rk, r3, r4⟩
                  have nb := nrw_b (b := gapF (sG σ) q.1 - s * gS (sG σ) l) (s := s) (g := q.2) (r := (hI h1 30 3, hI h1 30 4)) (by omega) (by omega) (by dsimp only; omega)
                  have a := a.rk o rk
                  have s1 := sameM_tr s1 rk.M
                  refine wp_iinc dX10_shorts_108 rfl (by decide) ?_
                  refine wp_goto 48 dX10_shorts_111 (by decide) ?_
                  refine wp_loc [(0, .ref (adr X 0)), (1, .int (iI l)), (2, .int (iI w)), (3, .int (iI s)), (4, .int (iI (i + 1 : Nat)))] ⟨rfl, rfl, rfl, rfl, rfl, trivial⟩ ?_
                  exact ih (i + 1) _ (by omega) a s1 (by rw [r3, r4]; exact nb) (by rw [hV, q2, List.foldl_cons, r3, r4]; unfold shF; rw [← hsd])
            refine wp_loc [(0, .ref (adr X 0)), (1, .int (iI l)), (2, .int (iI w)), (3, .int (iI s)), (4, .int (iI (0 : Nat)))] ⟨rfl, rfl, rfl, rfl, rfl, trivial⟩ ?_
            exact L (sR_ σ).length 0 h1 (by omega) a s1 (by omega) (by rw [hV0, r3, r4]; rfl)
          · refine wp_iconst dX10_shorts_32 ?_
            refine wp_goto 37 dX10_shorts_33 (by decide) ?_
            obtain ⟨s, hsd⟩ : ∃ s : Int, s = if l % 2 = 0 then -1 else 1 := ⟨_, rfl⟩
            have hsv : s = -1 ∨ s = 1 := by rw [hsd]; split <;> omega
            first
              | rw [show (-1 : Int) = s by rw [hsd, if_pos (by omega)]]
              | rw [show (1 : Int) = s by rw [hsd, if_neg (by omega)]]
            refine wp_istore_n dX10_shorts_37 (by decide) ?_
            refine wp_aload_n dX10_shorts_38 rfl ?_
            refine wp_getC dX10_shorts_39 flX10_56 rfl rfl ?_
            refine wp_callV dX10_shorts_42 mlX10_279 mvX5_startRange (S_X5_startRange) rfl rfl (by decide) (by decide) rfl rfl rfl (Nat.le_of_ble_eq_true rfl) ?_
            rintro rv h1 ⟨rfl, rk, r3, r4⟩
            have a := a.rk o rk
            have s1 := rk.M
            refine wp_iconst dX10_shorts_45 ?_
            refine wp_istore dX10_shorts_46 (by decide) ?_
            obtain ⟨V, hV0⟩ : ∃ V : Int, V = qShorts σ l w := ⟨_, rfl⟩
            rw [← hV0]
            unfold qShorts at hV0
            rw [if_pos (by omega)] at hV0
            have L : ∀ (n : Nat) (i : Nat) (h1 : Hp), ((i : Int) + n = (sR_ σ).length) → (AC h1 σ) → (sameM h h1) → (-3000 ≤ hI h1 30 3 ∧ hI h1 30 3 ≤ 3000 ∧ -3000 ≤ hI h1 30 4 ∧ hI h1 30 4 ≤ 3000) → (V = rngA w (((sR_ σ).drop i).foldl (fun r q => shF (sG σ) l q r) (hI h1 30 3, hI h1 30 4))) → WP X mX10_shorts 30 48 [(0, .ref (adr X 0)), (1, .int (iI l)), (2, .int (iI w)), (3, .int (iI s)), (4, .int (iI (i : Nat)))] [] h1 (fun rv h' => rv = some (.int (iI V)) ∧ AC h' σ ∧ sameM h h') := by
              intro n
              induction n with
              | zero =>
                intro i h1 hn a s1 hrb hV
                have g := a.gb o
                have hG := g.1
                have gk := o.2.2.2.1
                have gb := gk.b
                have gkb := gk.2.1
                have e4 : hI h1 (hR h1 0 6) 4 = gP (sG σ) := a.2.2.2.2.1.1
                have e5 : hI h1 (hR h1 0 6) 5 = gA (sG σ) := a.2.2.2.2.1.2.1
                have e6 : hI h1 (hR h1 0 6) 6 = gK (sG σ) := a.2.2.2.2.1.2.2.1
                have he : hI h1 (hR h1 0 6) 4 % 2 = 0 := by omega
                have kl := o.2.2.2.2.1.1
                have k1 := a.2.2.2.2.2.1.1
                refine wp_iload dX10_shorts_48 rfl ?_
                refine wp_aload_n dX10_shorts_50 rfl ?_
                refine wp_getC dX10_shorts_51 flX10_56 rfl rfl ?_
                refine wp_getI dX10_shorts_54 flX10_128 rfl rfl ?_
                refine wp_icmpge 114 dX10_shorts_57 (by decide) (by unfold InR; omega) (by unfold InR; omega) (fun c57 => ?_) (fun c57 => ?_)
                · refine wp_aload_n dX10_shorts_114 rfl ?_
                  refine wp_getC dX10_shorts_115 flX10_56 rfl rfl ?_
                  refine wp_iload_n dX10_shorts_118 rfl ?_
                  refine wp_callVp dX10_shorts_119 mlX10_292 mvX5_rangeAnswer (S_X5_rangeAnswer (by omega) (by omega)) rfl rfl (by decide) (by decide) rfl rfl rfl (Nat.le_of_ble_eq_true rfl) ?_
                  exact wp_iret dX10_shorts_122 rfl (⟨vi (by rw [hV, List.drop_eq_nil_of_le (by omega)]; rfl), a, s1⟩)
                · exact absurd c57 (by omega)
              | succ n ih =>
                intro i h1 hn a s1 hrb hV
                have g := a.gb o
                have hG := g.1
                have gk := o.2.2.2.1
                have gb := gk.b
                have gkb := gk.2.1
                have e4 : hI h1 (hR h1 0 6) 4 = gP (sG σ) := a.2.2.2.2.1.1
                have e5 : hI h1 (hR h1 0 6) 5 = gA (sG σ) := a.2.2.2.2.1.2.1
                have e6 : hI h1 (hR h1 0 6) 6 = gK (sG σ) := a.2.2.2.2.1.2.2.1
                have he : hI h1 (hR h1 0 6) 4 % 2 = 0 := by omega
                have kl := o.2.2.2.2.1.1
                have k1 := a.2.2.2.2.2.1.1
                refine wp_iload dX10_shorts_48 rfl ?_
                refine wp_aload_n dX10_shorts_50 rfl ?_
                refine wp_getC dX10_shorts_51 flX10_56 rfl rfl ?_
                refine wp_getI dX10_shorts_54 flX10_128 rfl rfl ?_
                refine wp_icmpge 114 dX10_shorts_57 (by decide) (by unfold InR; omega) (by unfold InR; omega) (fun c57 => ?_) (fun c57 => ?_)
                · exact absurd c57 (by omega)
                · have ii : ((i : Nat) : Int).toNat = i := by omega
                  obtain ⟨q, q1, q2, q3, q4, q5, q6⟩ := a.rki o (i := i) (by omega)
                  have vb := gapF_b gk q.1
                  have sbl := gk.s l
                  have eS : shO h1 (hR h1 0 6) = gS (sG σ) := a.2.2.2.2.1.2.2.2.2.2.1
                  have sm : -99 ≤ s * gS (sG σ) l ∧ s * gS (sG σ) l ≤ 99 := by rcases hsv with z | z <;> rw [z] <;> omega
                  refine wp_aload_n dX10_shorts_60 rfl ?_
                  refine wp_getM dX10_shorts_61 flX10_46 rfl rfl ?_
                  refine wp_aload_n dX10_shorts_64 rfl ?_
                  refine wp_getC dX10_shorts_65 flX10_56 rfl rfl ?_
                  refine wp_iload dX10_shorts_68 rfl ?_
                  refine wp_callVp dX10_shorts_70 mlX10_282 mvX5_turningOf (S_X5_turningOf (by omega) (by omega)) rfl rfl (by decide) (by decide) rfl rfl rfl (Nat.le_of_ble_eq_true rfl) ?_
                  rw [ii, q3]
                  refine wp_callVp dX10_shorts_73 mlX10_182 mvX3_gapAt (S_X3_gapAt g (by assumption) (by omega) (by omega)) rfl rfl (by decide) (by decide) (gs0 hG) rfl rfl (Nat.le_of_ble_eq_true rfl) ?_
                  rw [a.gap o q5]
                  refine wp_iload_n dX10_shorts_76 rfl ?_
                  refine wp_aload_n dX10_shorts_77 rfl ?_
                  refine wp_getM dX10_shorts_78 flX10_46 rfl rfl ?_
                  refine wp_iload_n dX10_shorts_81 rfl ?_
                  refine wp_callVp dX10_shorts_82 mlX10_165 mvX3_shortOf (S_X3_shortOf g (by first | assumption | (unfold InR; omega))) rfl rfl (by decide) (by decide) (gs0 hG) rfl rfl (Nat.le_of_ble_eq_true rfl) ?_
                  refine wp_imul dX10_shorts_85 ?_
                  refine wp_isub dX10_shorts_86 ?_
                  rw [eS]
                  refine wp_istore dX10_shorts_87 (by decide) ?_
                  refine wp_aload_n dX10_shorts_89 rfl ?_
                  refine wp_getC dX10_shorts_90 flX10_56 rfl rfl ?_
                  refine wp_iload dX10_shorts_93 rfl ?_
                  refine wp_iload_n dX10_shorts_95 rfl ?_
                  refine wp_aload_n dX10_shorts_96 rfl ?_
                  refine wp_getC dX10_shorts_97 flX10_56 rfl rfl ?_
                  refine wp_iload dX10_shorts_100 rfl ?_
                  refine wp_callVp dX10_shorts_102 mlX10_285 mvX5_signOf (S_X5_signOf (by omega) (by omega)) rfl rfl (by decide) (by decide) rfl rfl rfl (Nat.le_of_ble_eq_true rfl) ?_
                  rw [ii, q4]
                  refine wp_callV dX10_shorts_105 mlX10_288 mvX5_narrow (S_X5_narrow (by omega) (by omega) (by omega) (by omega)) rfl rfl (by decide) (by decide) rfl rfl rfl (Nat.le_of_ble_eq_true rfl) ?_
                  rintro rv h2 ⟨rfl, rk, r3, r4⟩
                  have nb := nrw_b (b := gapF (sG σ) q.1 - s * gS (sG σ) l) (s := s) (g := q.2) (r := (hI h1 30 3, hI h1 30 4)) (by omega) (by omega) (by dsimp only; omega)
                  have a := a.rk o rk
                  have s1 := sameM_tr s1 rk.M
                  refine wp_iinc dX10_shorts_108 rfl (by decide) ?_
                  refine wp_goto 48 dX10_shorts_111 (by decide) ?_
                  refine wp_loc [(0, .ref (adr X 0)), (1, .int (iI l)), (2, .int (iI w)), (3, .int (iI s)), (4, .int (iI (i + 1 : Nat)))] ⟨rfl, rfl, rfl, rfl, rfl, trivial⟩ ?_
                  exact ih (i + 1) _ (by omega) a s1 (by rw [r3, r4]; exact nb) (by rw [hV, q2, List.foldl_cons, r3, r4]; unfold shF; rw [← hsd])
            refine wp_loc [(0, .ref (adr X 0)), (1, .int (iI l)), (2, .int (iI w)), (3, .int (iI s)), (4, .int (iI (0 : Nat)))] ⟨rfl, rfl, rfl, rfl, rfl, trivial⟩ ?_
            exact L (sR_ σ).length 0 h1 (by omega) a s1 (by omega) (by rw [hV0, r3, r4]; rfl)
        · refine wp_ldc (z := -1000000) dX10_shorts_23 kcX10_181 ?_
          exact wp_iret dX10_shorts_25 rfl (⟨vi (by unfold qShorts; rw [if_neg (by omega)]), a, sameM_rf h⟩)

