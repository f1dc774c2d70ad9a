/-! feed, end, wish -/
def setT (σ : Sg) (t : List Int) : Sg := (t, σ.2)
def fdL (a b c d e : Int) : List Int := bsF a 4 ++ bsF b 4 ++ bsF c 4 ++ bsF d 4 ++ bsF e 4
def nFeed (σ : Sg) (a b c d e : Int) : Sg := if (sT σ).length + (fdL a b c d e).length ≤ 160 then setT σ (sT σ ++ fdL a b c d e) else σ
def rFeed (σ : Sg) (a b c d e : Int) : Int := if (sT σ).length + (fdL a b c d e).length ≤ 160 then (sT σ).length + (fdL a b c d e).length else -1
def nEnd (σ : Sg) (n : Int) : Sg := if 0 ≤ n ∧ n ≤ (sT σ).length then setT σ ((sT σ).take n.toNat) else σ
def rEnd (σ : Sg) (n : Int) : Int := b2i (0 ≤ n ∧ n ≤ (sT σ).length)
def nWish (σ : Sg) (w : Int) : Sg := if 0 < gP (sG σ) ∧ -1 ≤ w ∧ w < (sW σ).length then (σ.1, σ.2.1, w, σ.2.2.2) else σ
def rWish (σ : Sg) (w : Int) : Int := b2i (0 < gP (sG σ) ∧ -1 ≤ w ∧ w < (sW σ).length)
theorem fdL_len (a b c d e : Int) : (fdL a b c d e).length = (bsF a 4).length + (bsF b 4).length + (bsF c 4).length + (bsF d 4).length + (bsF e 4).length := by
  unfold fdL
  simp only [List.length_append]
theorem AC.tp {h : Hp} {σ : Sg} (a : AC h σ) : TPh h (sT σ) := a.1

set_option maxRecDepth 20000 in
theorem S_X10_feed {X : Cx} {h : Hp} {σ : Sg} (a : AC h σ) (o : SOK σ) {a1 b1 c1 d1 e1 : Int} : Spec X mX10_feed 30 [.ref (adr X 0), .int (iI a1), .int (iI b1), .int (iI c1), .int (iI d1), .int (iI e1)] h (fun rv h' => rv = some (.int (iI (rFeed σ a1 b1 c1 d1 e1))) ∧ AC h' (nFeed σ a1 b1 c1 d1 e1) ∧ sameM h h') := by
  have tp0 := a.tp
  have t1 := tp0.1
  have tl := o.1.1
  have l0 := bsF_len a1 4
  have l1 := bsF_len b1 4
  have l2 := bsF_len c1 4
  have l3 := bsF_len d1 4
  have l4 := bsF_len e1 4
  have fl := fdL_len a1 b1 c1 d1 e1
  refine spec_wp (Nat.le_of_ble_eq_true rfl) (by decide +kernel) ?_
  refine wp_loc [(0, .ref (adr X 0)), (1, .int (iI a1)), (2, .int (iI b1)), (3, .int (iI c1)), (4, .int (iI d1)), (5, .int (iI e1))] ⟨rfl, rfl, rfl, rfl, rfl, rfl, trivial⟩ ?_
  refine wp_iload_n dX10_feed_0 rfl ?_
  refine wp_callSp dX10_feed_1 mlX10_103 msX7_bytesIn (S_X7_bytesIn) rfl rfl (by decide) (by decide) (Nat.le_of_ble_eq_true rfl) ?_
  refine wp_iload_n dX10_feed_4 rfl ?_
  refine wp_callSp dX10_feed_5 mlX10_103 msX7_bytesIn (S_X7_bytesIn) rfl rfl (by decide) (by decide) (Nat.le_of_ble_eq_true rfl) ?_
  refine wp_iadd dX10_feed_8 ?_
  refine wp_iload_n dX10_feed_9 rfl ?_
  refine wp_callSp dX10_feed_10 mlX10_103 msX7_bytesIn (S_X7_bytesIn) rfl rfl (by decide) (by decide) (Nat.le_of_ble_eq_true rfl) ?_
  refine wp_iadd dX10_feed_13 ?_
  refine wp_iload dX10_feed_14 rfl ?_
  refine wp_callSp dX10_feed_16 mlX10_103 msX7_bytesIn (S_X7_bytesIn) rfl rfl (by decide) (by decide) (Nat.le_of_ble_eq_true rfl) ?_
  refine wp_iadd dX10_feed_19 ?_
  refine wp_iload dX10_feed_20 rfl ?_
  refine wp_callSp dX10_feed_22 mlX10_103 msX7_bytesIn (S_X7_bytesIn) rfl rfl (by decide) (by decide) (Nat.le_of_ble_eq_true rfl) ?_
  refine wp_iadd dX10_feed_25 ?_
  refine wp_istore dX10_feed_26 (by decide) ?_
  refine wp_aload_n dX10_feed_28 rfl ?_
  refine wp_getC dX10_feed_29 flX10_10 rfl rfl ?_
  refine wp_getI dX10_feed_32 flX10_107 rfl rfl ?_
  refine wp_iload dX10_feed_35 rfl ?_
  refine wp_iadd dX10_feed_37 ?_
  refine wp_sipush dX10_feed_38 rfl ?_
  rw [t1]
  refine wp_icmple 46 dX10_feed_41 (by decide) (by unfold InR; omega) (by unfold InR; omega) (fun c41 => ?_) (fun c41 => ?_)
  · refine wp_aload_n dX10_feed_46 rfl ?_
    refine wp_getC dX10_feed_47 flX10_10 rfl rfl ?_
    refine wp_iload_n dX10_feed_50 rfl ?_
    refine wp_callV dX10_feed_51 mlX10_110 mvX7_add (S_X7_add (t := sT σ) (by omega) tp0) rfl rfl (by decide) (by decide) rfl rfl rfl (Nat.le_of_ble_eq_true rfl) ?_
    rintro rv h1 ⟨rfl, tp1, kp1⟩
    refine wp_aload_n dX10_feed_54 rfl ?_
    refine wp_getC dX10_feed_55 flX10_10 rfl rfl ?_
    refine wp_iload_n dX10_feed_58 rfl ?_
    refine wp_callV dX10_feed_59 mlX10_110 mvX7_add (S_X7_add (t := sT σ ++ bsF a1 4) (by simp only [List.length_append]; omega) tp1) rfl rfl (by decide) (by decide) rfl rfl rfl (Nat.le_of_ble_eq_true rfl) ?_
    rintro rv h2 ⟨rfl, tp2, kp2⟩
    refine wp_aload_n dX10_feed_62 rfl ?_
    refine wp_getC dX10_feed_63 flX10_10 rfl rfl ?_
    refine wp_iload_n dX10_feed_66 rfl ?_
    refine wp_callV dX10_feed_67 mlX10_110 mvX7_add (S_X7_add (t := sT σ ++ bsF a1 4 ++ bsF b1 4) (by simp only [List.length_append]; omega) tp2) rfl rfl (by decide) (by decide) rfl rfl rfl (Nat.le_of_ble_eq_true rfl) ?_
    rintro rv h3 ⟨rfl, tp3, kp3⟩
    refine wp_aload_n dX10_feed_70 rfl ?_
    refine wp_getC dX10_feed_71 flX10_10 rfl rfl ?_
    refine wp_iload dX10_feed_74 rfl ?_
    refine wp_callV dX10_feed_76 mlX10_110 mvX7_add (S_X7_add (t := sT σ ++ bsF a1 4 ++ bsF b1 4 ++ bsF c1 4) (by simp only [List.length_append]; omega) tp3) rfl rfl (by decide) (by decide) rfl rfl rfl (Nat.le_of_ble_eq_true rfl) ?_
    rintro rv h4 ⟨rfl, tp4, kp4⟩
    refine wp_aload_n dX10_feed_79 rfl ?_
    refine wp_getC dX10_feed_80 flX10_10 rfl rfl ?_
    refine wp_iload dX10_feed_83 rfl ?_
    refine wp_callV dX10_feed_85 mlX10_110 mvX7_add (S_X7_add (t := sT σ ++ bsF a1 4 ++ bsF b1 4 ++ bsF c1 4 ++ bsF d1 4) (by simp only [List.length_append]; omega) tp4) rfl rfl (by decide) (by decide) rfl rfl rfl (Nat.le_of_ble_eq_true rfl) ?_
    rintro rv h5 ⟨rfl, tp5, kp5⟩
    refine wp_aload_n dX10_feed_88 rfl ?_
    refine wp_getC dX10_feed_89 flX10_10 rfl rfl ?_
    refine wp_getI dX10_feed_92 flX10_107 rfl rfl ?_
    exact wp_iret dX10_feed_95 rfl (by
      have kp := (((kp1.tr kp2).tr kp3).tr kp4).tr kp5
      have ee : sT σ ++ bsF a1 4 ++ bsF b1 4 ++ bsF c1 4 ++ bsF d1 4 ++ bsF e1 4 = sT σ ++ fdL a1 b1 c1 d1 e1 := by unfold fdL; simp only [List.append_assoc]
      rw [ee] at tp5
      refine ⟨vi (by unfold rFeed; rw [if_pos (by omega), tp5.1, List.length_append]; omega), ?_, kp.M (by unfold stT; omega)⟩
      unfold nFeed
      rw [if_pos (by omega)]
      exact AC.setT a o tp5 (fun c j _ q1 q2 => kp.1 c j (by unfold stT; omega)) (by unfold hR; rw [kp.2]) (by unfold hR; rw [kp.2]))
  · refine wp_iconst dX10_feed_44 ?_
    exact wp_iret dX10_feed_45 rfl (⟨vi (by unfold rFeed; rw [if_neg (by omega)]), by unfold nFeed; rw [if_neg (by omega)]; exact a, sameM_rf h⟩)

set_option maxRecDepth 20000 in
theorem S_X10_end {X : Cx} {h : Hp} {σ : Sg} (a : AC h σ) (o : SOK σ) {n : Int} (hn : InR n) : Spec X mX10_end 30 [.ref (adr X 0), .int (iI n)] h (fun rv h' => rv = some (.int (iI (rEnd σ n))) ∧ AC h' (nEnd σ n) ∧ sameM h h') := by
  have tp0 := a.tp
  have t1 := tp0.1
  have tl := o.1.1
  refine spec_wp (Nat.le_of_ble_eq_true rfl) (by decide +kernel) ?_
  refine wp_loc [(0, .ref (adr X 0)), (1, .int (iI n))] ⟨rfl, rfl, trivial⟩ ?_
  refine wp_iload_n dX10_end_0 rfl ?_
  refine wp_iflt 15 dX10_end_1 (by decide) (by first | assumption | (unfold InR; omega)) (fun c1 => ?_) (fun c1 => ?_)
  · refine wp_iconst dX10_end_15 ?_
    exact wp_zret dX10_end_16 rfl (by omega) (⟨vb0 (by omega), by unfold nEnd; rw [if_neg (by omega)]; exact a, sameM_rf h⟩)
  · refine wp_iload_n dX10_end_4 rfl ?_
    refine wp_aload_n dX10_end_5 rfl ?_
    refine wp_getC dX10_end_6 flX10_10 rfl rfl ?_
    refine wp_getI dX10_end_9 flX10_107 rfl rfl ?_
    rw [t1]
    refine wp_icmple 17 dX10_end_12 (by decide) (by first | assumption | (unfold InR; omega)) (by first | assumption | (unfold InR; omega)) (fun c12 => ?_) (fun c12 => ?_)
    · refine wp_aload_n dX10_end_17 rfl ?_
      refine wp_getC dX10_end_18 flX10_10 rfl rfl ?_
      refine wp_iload_n dX10_end_21 rfl ?_
      refine wp_putI dX10_end_22 plX10_107 rfl rfl ?_
      refine wp_iconst dX10_end_25 ?_
      exact wp_zret dX10_end_26 rfl (by omega) (by
    refine ⟨vb1 (by omega), ?_, (Kp.sI (S := stT) (Or.inr ⟨rfl, rfl⟩)).M (by unfold stT; omega)⟩
    unfold nEnd
    rw [if_pos (by omega)]
    refine AC.setT a o ⟨by rw [hI_same, List.length_take]; omega, fun i hi => ?_⟩ (fun c j _ q1 q2 => by rw [hI_sI, if_neg (by omega)]) rfl rfl
    rw [List.length_take] at hi
    rw [hI_sI, if_neg (by omega), tp0.2 i (by omega), List.getD_eq_getElem?_getD, List.getD_eq_getElem?_getD, List.getElem?_take_of_lt (by omega)])
    · refine wp_iconst dX10_end_15 ?_
      exact wp_zret dX10_end_16 rfl (by omega) (⟨vb0 (by omega), by unfold nEnd; rw [if_neg (by omega)]; exact a, sameM_rf h⟩)

set_option maxRecDepth 20000 in
theorem S_X10_wish {X : Cx} {h : Hp} {σ : Sg} (a : AC h σ) (o : SOK σ) {w : Int} (hw : InR w) : Spec X mX10_wish 30 [.ref (adr X 0), .int (iI w)] h (fun rv h' => rv = some (.int (iI (rWish σ w))) ∧ AC h' (nWish σ w) ∧ sameM h h') := by
  have g := a.gb o
  have hG := g.1
  have gk := o.2.2.2.1
  have gb := gk.b
  have gkb := gk.2.1
  have e4 : hI h (hR h 0 6) 4 = gP (sG σ) := a.2.2.2.2.1.1
  have e5 : hI h (hR h 0 6) 5 = gA (sG σ) := a.2.2.2.2.1.2.1
  have e6 : hI h (hR h 0 6) 6 = gK (sG σ) := a.2.2.2.2.1.2.2.1
  have he : hI h (hR h 0 6) 4 % 2 = 0 := by omega
  have w1 := a.2.1.1
  have wl := o.2.1.1
  refine spec_wp (Nat.le_of_ble_eq_true rfl) (by decide +kernel) ?_
  refine wp_loc [(0, .ref (adr X 0)), (1, .int (iI w))] ⟨rfl, rfl, trivial⟩ ?_
  refine wp_aload_n dX10_wish_0 rfl ?_
  refine wp_callVp dX10_wish_1 mlX10_148 mvX10_noGarden (S_X10_noGarden g) rfl rfl (by decide) (by decide) rfl rfl rfl (Nat.le_of_ble_eq_true rfl) ?_
  refine wp_ifneb 20 dX10_wish_4 (by decide) (fun c4 => ?_) (fun c4 => ?_)
  · refine wp_iconst dX10_wish_20 ?_
    exact wp_zret dX10_wish_21 rfl (by omega) (⟨vb0 (by omega), by unfold nWish; rw [if_neg (by omega)]; exact a, sameM_rf h⟩)
  · refine wp_iload_n dX10_wish_7 rfl ?_
    refine wp_iconst dX10_wish_8 ?_
    refine wp_icmplt 20 dX10_wish_9 (by decide) (by first | assumption | (unfold InR; omega)) (by first | assumption | (unfold InR; omega)) (fun c9 => ?_) (fun c9 => ?_)
    · refine wp_iconst dX10_wish_20 ?_
      exact wp_zret dX10_wish_21 rfl (by omega) (⟨vb0 (by omega), by unfold nWish; rw [if_neg (by omega)]; exact a, sameM_rf h⟩)
    · refine wp_iload_n dX10_wish_12 rfl ?_
      refine wp_aload_n dX10_wish_13 rfl ?_
      refine wp_getI dX10_wish_14 flX10_36 rfl rfl ?_
      rw [w1]
      refine wp_icmplt 22 dX10_wish_17 (by decide) (by first | assumption | (unfold InR; omega)) (by first | assumption | (unfold InR; omega)) (fun c17 => ?_) (fun c17 => ?_)
      · refine wp_aload_n dX10_wish_22 rfl ?_
        refine wp_iload_n dX10_wish_23 rfl ?_
        refine wp_putI dX10_wish_24 plX10_40 rfl rfl ?_
        refine wp_iconst dX10_wish_27 ?_
        exact wp_zret dX10_wish_28 rfl (by omega) (⟨vb1 (by omega), by unfold nWish; rw [if_pos (by omega)]; exact AC.setD a o hI_same (fun c j _ q => by rw [hI_sI, if_neg q]) rfl rfl, (Kp.sI (S := fun c j => c = 0 ∧ j = 5) ⟨rfl, rfl⟩).M (by omega)⟩)
      · refine wp_iconst dX10_wish_20 ?_
        exact wp_zret dX10_wish_21 rfl (by omega) (⟨vb0 (by omega), by unfold nWish; rw [if_neg (by omega)]; exact a, sameM_rf h⟩)

