/-! the reference: the TAPE -/
theorem and255 (a : Int) : iAnd a 255 = (iI a).toInt % 256 := by
  have e1 : (iI 255).toBitVec.toNat = 255 := by decide
  have hlt := (iI a).toBitVec.isLt
  have e2 : (iI a &&& iI 255).toBitVec.toNat = (iI a).toBitVec.toNat % 256 := by
    rw [Int32.toBitVec_and, BitVec.toNat_and, e1]
    exact Nat.and_two_pow_sub_one_eq_mod _ 8
  have e3 : iAnd a 255 = ((iI a &&& iI 255).toBitVec.toNat : Int) := by
    unfold iAnd
    rw [← Int32.toInt_toBitVec, BitVec.toInt_eq_toNat_cond, if_pos (by omega)]
  have e4 : (iI a).toInt = ((iI a).toBitVec.toNat : Int) ∨ (iI a).toInt = ((iI a).toBitVec.toNat : Int) - 4294967296 := by
    rw [← Int32.toInt_toBitVec, BitVec.toInt_eq_toNat_cond]
    split
    · exact Or.inl rfl
    · exact Or.inr rfl
  rw [e3, e2]
  omega
theorem byS {w s : Int} (hs : s = 0 ∨ s = 8 ∨ s = 16 ∨ s = 24) : iAnd (iShr w s) 255 = by1 w s := by
  have e4 : (iI w).toInt = ((iI w).toBitVec.toNat : Int) ∨ (iI w).toInt = ((iI w).toBitVec.toNat : Int) - 4294967296 := by
    rw [← Int32.toInt_toBitVec, BitVec.toInt_eq_toNat_cond]
    split
    · exact Or.inl rfl
    · exact Or.inr rfl
  have hlt := (iI w).toBitVec.isLt
  have us : ∀ n : Nat, (iI (iUsh w s)).toBitVec.toNat = (iI w).toBitVec.toNat / n → (iI (iUsh w s)).toInt % 256 = (((iI w).toBitVec.toNat / n : Nat) : Int) % 256 := by
    intro n hn
    have h5 : (iI (iUsh w s)).toInt = ((iI (iUsh w s)).toBitVec.toNat : Int) ∨ (iI (iUsh w s)).toInt = ((iI (iUsh w s)).toBitVec.toNat : Int) - 4294967296 := by
      rw [← Int32.toInt_toBitVec, BitVec.toInt_eq_toNat_cond]
      split
      · exact Or.inl rfl
      · exact Or.inr rfl
    rw [hn] at h5
    generalize (iI w).toBitVec.toNat / n = z at h5 ⊢
    omega
  unfold by1
  rw [and255, and255]
  have es : (iI (iShr w s)).toInt = iShr w s := by unfold iShr; rw [iI_of]
  have eu : iI (iUsh w s) = ((iI w).toUInt32 >>> ((iI s).toUInt32 &&& Int32.toUInt32 31)).toInt32 := by unfold iUsh; rw [iI_of]
  rcases hs with rfl | rfl | rfl | rfl
  · rw [us 1 (by rw [eu, pk_ushr (iI w) (iI 0) 0 (by decide)]), es]
    unfold iShr
    rw [pk_shr (iI w) (iI 0 &&& 31) 0 (by decide), Int.shiftRight_eq_div_pow]
    omega
  · rw [us 256 (by rw [eu, pk_ushr (iI w) (iI 8) 8 (by decide)]), es]
    unfold iShr
    rw [pk_shr (iI w) (iI 8 &&& 31) 8 (by decide), Int.shiftRight_eq_div_pow]
    omega
  · rw [us 65536 (by rw [eu, pk_ushr (iI w) (iI 16) 16 (by decide)]), es]
    unfold iShr
    rw [pk_shr (iI w) (iI 16 &&& 31) 16 (by decide), Int.shiftRight_eq_div_pow]
    omega
  · rw [us 16777216 (by rw [eu, pk_ushr (iI w) (iI 24) 24 (by decide)]), es]
    unfold iShr
    rw [pk_shr (iI w) (iI 24 &&& 31) 24 (by decide), Int.shiftRight_eq_div_pow]
    omega
theorem byteS (a : Int) : iByte a = sbt (iAnd a 255) := by
  rw [and255]
  unfold iByte sbt
  rw [Int8.toInt_toInt32, Int32.toInt_toInt8, Int.bmod_def]
  show (if (iI a).toInt % 256 < (256 + 1) / 2 then _ else _) = _
  rw [show ((256 : Int) + 1) / 2 = 128 by decide]
  rfl
/-- the reference's tape -/
def TPm (h : Hp) (t : List Int) : Prop := hI h 47 6 = t.length ∧ ∀ i : Nat, i < t.length → hI h 48 i = sbt (t.getD i 0)
def stM (c j : Nat) : Prop := c = 48 ∨ (c = 47 ∧ j = 6)
theorem TPm.app {h : Hp} {t : List Int} (a : TPm h t) {b : Int} : TPm (sI (sI h 48 t.length (sbt b)) 47 6 (t.length + 1)) (t ++ [b]) := by
  refine ⟨by rw [hI_sI, if_pos ⟨rfl, rfl⟩, List.length_append]; simp, fun i hi => ?_⟩
  rw [hI_sI, if_neg (by omega), hI_sI]
  rw [List.length_append, List.length_singleton] at hi
  by_cases hc : i = t.length
  · rw [if_pos ⟨rfl, hc⟩, hc]; simp
  · rw [if_neg (fun q => hc q.2), a.2 i (by omega), List.getD_eq_getElem?_getD, List.getD_eq_getElem?_getD, List.getElem?_append_left (by omega)]

set_option maxRecDepth 20000 in
theorem S_X11_bytesIn {X : Cx} {h : Hp} {w : Int} : Spec X mX11_bytesIn 0 [.int (iI w)] h (fun rv h' => rv = some (.int (iI ((bsF w 4).length : Int))) ∧ h' = h) := by
  obtain ⟨V, hV0⟩ : ∃ V : Int, V = ((bsF w 4).length : Int) := ⟨_, rfl⟩
  rw [← hV0]
  refine spec_wp (Nat.le_of_ble_eq_true rfl) (by decide +kernel) ?_
  refine wp_loc [(0, .int (iI w))] ⟨rfl, trivial⟩ ?_
  have Lby : ∀ (n : Nat) (s c : Int), (s + 8 = 8 * n ∧ n ≤ 4) → (V = c + (bsF w n).length) → WP X mX11_bytesIn 0 5 [(0, .int (iI w)), (1, .int (iI c)), (2, .int (iI s))] [] h (fun rv h' => rv = some (.int (iI V)) ∧ h' = h) := by
    intro n
    induction n with
    | zero =>
      intro s c hn hV
      refine wp_iload_n dX11_bytesIn_5 rfl ?_
      refine wp_iflt 33 dX11_bytesIn_6 (by decide) (by unfold InR; omega) (fun c6 => ?_) (fun c6 => ?_)
      · refine wp_iload_n dX11_bytesIn_33 rfl ?_
        exact wp_iret dX11_bytesIn_34 rfl (⟨vi (by rw [hV]; simp [bsF]), rfl⟩)
      · exact absurd c6 (by omega)
    | succ n ih =>
      intro s c hn hV
      refine wp_iload_n dX11_bytesIn_5 rfl ?_
      refine wp_iflt 33 dX11_bytesIn_6 (by decide) (by unfold InR; omega) (fun c6 => ?_) (fun c6 => ?_)
      · exact absurd c6 (by omega)
      · have hs4 : s = 0 ∨ s = 8 ∨ s = 16 ∨ s = 24 := by omega
        have e : by1 w (8 * (n : Int)) = iAnd (iShr w s) 255 := by rw [byS hs4]; congr 1; omega
        refine wp_iload_n dX11_bytesIn_9 rfl ?_
        refine wp_iload_n dX11_bytesIn_10 rfl ?_
        refine wp_iload_n dX11_bytesIn_11 rfl ?_
        refine wp_ishr dX11_bytesIn_12 ?_
        refine wp_sipush dX11_bytesIn_13 rfl ?_
        refine wp_iand dX11_bytesIn_16 ?_
        refine wp_ifeq 24 dX11_bytesIn_17 (by decide) (inR_of _) (fun c17 => ?_) (fun c17 => ?_)
        · refine wp_iconst dX11_bytesIn_24 ?_
          refine wp_iadd dX11_bytesIn_25 ?_
          refine wp_istore_n dX11_bytesIn_26 (by decide) ?_
          refine wp_iinc dX11_bytesIn_27 rfl (by decide) ?_
          refine wp_goto 5 dX11_bytesIn_30 (by decide) ?_
          rw [bsF] at hV
          rw [if_pos (e.trans c17)] at hV
          refine wp_loc [(0, .int (iI w)), (1, .int (iI (c + 0))), (2, .int (iI (s + -8)))] ⟨rfl, rfl, rfl, trivial⟩ ?_
          exact ih (s + -8) (c + 0) (by omega) (by omega)
        · refine wp_iconst dX11_bytesIn_20 ?_
          refine wp_goto 25 dX11_bytesIn_21 (by decide) ?_
          refine wp_iadd dX11_bytesIn_25 ?_
          refine wp_istore_n dX11_bytesIn_26 (by decide) ?_
          refine wp_iinc dX11_bytesIn_27 rfl (by decide) ?_
          refine wp_goto 5 dX11_bytesIn_30 (by decide) ?_
          rw [bsF] at hV
          rw [if_neg (fun q => c17 (e.symm.trans q)), List.length_cons] at hV
          refine wp_loc [(0, .int (iI w)), (1, .int (iI (c + 1))), (2, .int (iI (s + -8)))] ⟨rfl, rfl, rfl, trivial⟩ ?_
          exact ih (s + -8) (c + 1) (by omega) (by omega)
  refine wp_iconst dX11_bytesIn_0 ?_
  refine wp_istore_n dX11_bytesIn_1 (by decide) ?_
  refine wp_bipush dX11_bytesIn_2 rfl ?_
  refine wp_istore_n dX11_bytesIn_4 (by decide) ?_
  refine wp_loc [(0, .int (iI w)), (1, .int (iI 0)), (2, .int (iI 24))] ⟨rfl, rfl, rfl, trivial⟩ ?_
  exact Lby 4 24 0 (by omega) (by omega)

theorem iByteB (a : Int) : iByte (iByte a) = iByte a := by
  have h := byteS a
  have h1 : 0 ≤ iAnd a 255 ∧ iAnd a 255 ≤ 255 := iAnd_b a (by decide) (by decide)
  have h2 : ∀ n : Fin 256, iByte (sbt ((n : Nat) : Int)) = sbt ((n : Nat) : Int) := by decide +kernel
  have h3 := h2 ⟨(iAnd a 255).toNat, by omega⟩
  rw [show (((iAnd a 255).toNat : Nat) : Int) = iAnd a 255 by omega] at h3
  rw [h, h3]

set_option maxRecDepth 20000 in
theorem S_X11_put {X : Cx} {h : Hp} {w : Int} {t : List Int} (hu : t.length + (bsF w 4).length ≤ 160) (tp : TPm h t) : Spec X mX11_put 0 [.ref (adr X 47), .int (iI w)] h (fun rv h' => rv = none ∧ TPm h' (t ++ bsF w 4) ∧ Kp stM h h') := by
  obtain ⟨V, hV0⟩ : ∃ V : List Int, V = t ++ bsF w 4 := ⟨_, rfl⟩
  rw [← hV0]
  refine spec_wp (Nat.le_of_ble_eq_true rfl) (by decide +kernel) ?_
  refine wp_loc [(0, .ref (adr X 47)), (1, .int (iI w))] ⟨rfl, rfl, trivial⟩ ?_
  have Lpt : ∀ (n : Nat) (s : Int) (u : List Int) (h1 : Hp), (s + 8 = 8 * n ∧ n ≤ 4) → (u.length + (bsF w n).length ≤ 160) → (TPm h1 u) → (Kp stM h h1) → (V = u ++ bsF w n) → WP X mX11_put 0 3 [(0, .ref (adr X 47)), (1, .int (iI w)), (2, .int (iI s))] [] h1 (fun rv h' => rv = none ∧ TPm h' (V) ∧ Kp stM h h') := by
    intro n
    induction n with
    | zero =>
      intro s u h1 hn hu tp kp hV
      refine wp_iload_n dX11_put_3 rfl ?_
      refine wp_iflt 49 dX11_put_4 (by decide) (by unfold InR; omega) (fun c4 => ?_) (fun c4 => ?_)
      · exact wp_ret dX11_put_49 rfl (⟨rfl, by rw [hV, bsF, List.append_nil]; exact tp, kp⟩)
      · exact absurd c4 (by omega)
    | succ n ih =>
      intro s u h1 hn hu tp kp hV
      refine wp_iload_n dX11_put_3 rfl ?_
      refine wp_iflt 49 dX11_put_4 (by decide) (by unfold InR; omega) (fun c4 => ?_) (fun c4 => ?_)
      · exact absurd c4 (by omega)
      · have hs4 : s = 0 ∨ s = 8 ∨ s = 16 ∨ s = 24 := by omega
        have e : by1 w (8 * (n : Int)) = iAnd (iShr w s) 255 := by rw [byS hs4]; congr 1; omega
        have t1 := tp.1
        rw [bsF] at hu hV
        refine wp_iload_n dX11_put_7 rfl ?_
        refine wp_iload_n dX11_put_8 rfl ?_
        refine wp_ishr dX11_put_9 ?_
        refine wp_sipush dX11_put_10 rfl ?_
        refine wp_iand dX11_put_13 ?_
        refine wp_ifne 20 dX11_put_14 (by decide) (inR_of _) (fun c14 => ?_) (fun c14 => ?_)
        · rw [if_neg (fun q => c14 (e.symm.trans q))] at hu hV
          rw [List.length_cons] at hu
          refine wp_aload_n dX11_put_20 rfl ?_
          refine wp_getC dX11_put_21 flX11_9 rfl rfl ?_
          refine wp_aload_n dX11_put_24 rfl ?_
          refine wp_getI dX11_put_25 flX11_112 rfl rfl ?_
          rw [t1]
          refine wp_iload_n dX11_put_28 rfl ?_
          refine wp_iload_n dX11_put_29 rfl ?_
          refine wp_ishr dX11_put_30 ?_
          refine wp_i2b dX11_put_31 ?_
          refine wp_bast (n := 160) dX11_put_32 rfl (by omega) (by omega) ?_
          rw [show iByte (iByte (iShr w s)) = sbt (iAnd (iShr w s) 255) by rw [iByteB, byteS]]
          refine wp_aload_n dX11_put_33 rfl ?_
          refine wp_dup dX11_put_34 rfl ?_
          refine wp_getI dX11_put_35 flX11_112 rfl rfl ?_
          rw [hI_sI, if_neg (by omega), t1]
          refine wp_iconst dX11_put_38 ?_
          refine wp_iadd dX11_put_39 ?_
          refine wp_putI dX11_put_40 plX11_112 rfl rfl ?_
          refine wp_iinc dX11_put_43 rfl (by decide) ?_
          refine wp_goto 3 dX11_put_46 (by decide) ?_
          refine wp_loc [(0, .ref (adr X 47)), (1, .int (iI w)), (2, .int (iI (s + -8)))] ⟨rfl, rfl, rfl, trivial⟩ ?_
          exact ih (s + -8) (u ++ [iAnd (iShr w s) 255]) _ (by omega) (by rw [List.length_append, List.length_singleton]; omega) tp.app ((kp.tr (Kp.sI (Or.inl rfl))).tr (Kp.sI (Or.inr ⟨rfl, rfl⟩))) (by rw [hV, List.append_assoc, e]; rfl)
        · refine wp_goto 43 dX11_put_17 (by decide) ?_
          refine wp_iinc dX11_put_43 rfl (by decide) ?_
          refine wp_goto 3 dX11_put_46 (by decide) ?_
          rw [if_pos (e.trans c14)] at hu hV
          refine wp_loc [(0, .ref (adr X 47)), (1, .int (iI w)), (2, .int (iI (s + -8)))] ⟨rfl, rfl, rfl, trivial⟩ ?_
          exact ih (s + -8) u h1 (by omega) hu tp kp hV
  refine wp_bipush dX11_put_0 rfl ?_
  refine wp_istore_n dX11_put_2 (by decide) ?_
  refine wp_loc [(0, .ref (adr X 47)), (1, .int (iI w)), (2, .int (iI 24))] ⟨rfl, rfl, rfl, trivial⟩ ?_
  exact Lpt 4 24 t h (by omega) hu tp (Kp.rf h) hV0

theorem AM.setT {h h' : Hp} {σ : Sg} {t : List Int} (a : AM h σ) (tp : TPm h' t) (hk : ∀ c j, ¬ (SMx c j ∨ stM c j) → hI h' c j = hI h c j) (hr : h'.2.2 = h.2.2) : AM h' (setT σ t) := by
  obtain ⟨-, ⟨w1, w2⟩, d1, r1, ⟨g1, g2, g3, g4, g5, g6⟩, ⟨k1, k2⟩, ⟨c1, c2⟩, ⟨i1, i2⟩⟩ := a
  refine ⟨tp, ⟨?_, fun w t ht => ?_⟩, ?_, ?_, ⟨?_, ?_, ?_, ?_, ?_, fun s hs => ?_⟩, ⟨?_, fun i q hq => ?_⟩, ⟨?_, fun k l hl => ?_⟩, ⟨?_, fun l hl => ?_⟩⟩
  · rw [hk 47 7 (by unfold SMx stM; omega)]; exact w1
  · obtain ⟨q1, q2⟩ := w2 w t ht
    exact ⟨by rw [hk 50 _ (by unfold SMx stM; omega)]; exact q1, fun i hi => by rw [hk 49 _ (by unfold SMx stM; omega)]; exact q2 i hi⟩
  · rw [hk 47 31 (by unfold SMx stM; omega)]; exact d1
  · unfold hR; rw [hr]; exact r1
  · rw [hk 47 24 (by unfold SMx stM; omega)]; exact g1
  · rw [hk 47 26 (by unfold SMx stM; omega)]; exact g2
  · rw [hk 47 27 (by unfold SMx stM; omega)]; exact g3
  · rw [hM_eq (h := h) (hk 47 24 (by unfold SMx stM; omega)) (fun i => hk 52 i (by unfold SMx stM; omega))]; exact g4
  · rw [sM_eq (h := h) (fun i => hk 54 i (by unfold SMx stM; omega))]; exact g5
  · rw [hk 56 _ (by unfold SMx stM; omega), hk 56 _ (by unfold SMx stM; omega)]; exact g6 s hs
  · rw [hk 47 42 (by unfold SMx stM; omega)]; exact k1
  · rw [hk 63 _ (by unfold SMx stM; omega), hk 64 _ (by unfold SMx stM; omega)]; exact k2 i q hq
  · rw [hk 47 48 (by unfold SMx stM; omega)]; exact c1
  · have q := c2 k l hl
    exact ⟨fun i hi => by rw [hk 67 _ (by unfold SMx stM; omega)]; exact q.1 i hi, fun i hi => by rw [hk 67 _ (by unfold SMx stM; omega)]; exact q.2 i hi⟩
  · rw [hk 47 51 (by unfold SMx stM; omega)]; exact i1
  · have q := i2 l hl
    exact ⟨fun i hi => by rw [hk 68 _ (by unfold SMx stM; omega)]; exact q.1 i hi, fun i hi => by rw [hk 69 _ (by unfold SMx stM; omega)]; exact q.2 i hi⟩
theorem stM_C {h h' : Hp} (k : Kp stM h h') : sameC h h' := fun c hc => ⟨by funext j; exact k.1 c j (by unfold stM; omega), by rw [k.2], by rw [k.2]⟩

set_option maxRecDepth 20000 in
theorem S_X11_feed {X : Cx} {h : Hp} {σ : Sg} (am : AM h σ) (o : SOK σ) {a1 b1 c1 d1 e1 : Int} : Spec X mX11_feed 60 [.ref (adr X 47), .int (iI a1), .int (iI b1), .int (iI c1), .int (iI d1), .int (iI e1)] h (fun rv h' => rv = some (.int (iI (rFeed σ a1 b1 c1 d1 e1))) ∧ AM h' (nFeed σ a1 b1 c1 d1 e1) ∧ sameC h h') := by
  refine spec_wp (Nat.le_of_ble_eq_true rfl) (by decide +kernel) ?_
  refine wp_loc [(0, .ref (adr X 47)), (1, .int (iI a1)), (2, .int (iI b1)), (3, .int (iI c1)), (4, .int (iI d1)), (5, .int (iI e1))] ⟨rfl, rfl, rfl, rfl, rfl, rfl, trivial⟩ ?_
  refine wp_aload_n dX11_feed_0 rfl ?_
  refine wp_iconst dX11_feed_1 ?_
  refine wp_putI dX11_feed_2 plX11_95 rfl rfl ?_
  have k0 : KM h (sI h 47 0 0) := KM.sI (by unfold SMx; omega)
  have am := am.km k0
  generalize sI h 47 0 0 = h0 at *
  have gk := o.2.2.2.1
  have gb := gk.b
  have gkb := gk.2.1
  have e4 : hI h0 47 24 = gP (sG σ) := am.2.2.2.2.1.1
  have e5 : hI h0 47 26 = gA (sG σ) := am.2.2.2.2.1.2.1
  have e6 : hI h0 47 27 = gK (sG σ) := am.2.2.2.2.1.2.2.1
  have em : GM h0 = gE (sG σ) := am.gm
  have ep : gP (GM h0) = gP (sG σ) := e4
  have tp0 : TPm h0 (sT σ) := am.1
  have t1 := tp0.1
  have tl := o.1.1
  have l0 := bsF_len a1 4
  have l1 := bsF_len b1 4
  have l2 := bsF_len c1 4
  have l3 := bsF_len d1 4
  have l4 := bsF_len e1 4
  have fl := fdL_len a1 b1 c1 d1 e1
  refine wp_aload_n dX11_feed_5 rfl ?_
  refine wp_getI dX11_feed_6 flX11_112 rfl rfl ?_
  rw [t1]
  refine wp_iload_n dX11_feed_9 rfl ?_
  refine wp_callSp dX11_feed_10 mlX11_114 msX11_bytesIn (S_X11_bytesIn) rfl rfl (by decide) (by decide) (Nat.le_of_ble_eq_true rfl) ?_
  refine wp_iadd dX11_feed_13 ?_
  refine wp_iload_n dX11_feed_14 rfl ?_
  refine wp_callSp dX11_feed_15 mlX11_114 msX11_bytesIn (S_X11_bytesIn) rfl rfl (by decide) (by decide) (Nat.le_of_ble_eq_true rfl) ?_
  refine wp_iadd dX11_feed_18 ?_
  refine wp_iload_n dX11_feed_19 rfl ?_
  refine wp_callSp dX11_feed_20 mlX11_114 msX11_bytesIn (S_X11_bytesIn) rfl rfl (by decide) (by decide) (Nat.le_of_ble_eq_true rfl) ?_
  refine wp_iadd dX11_feed_23 ?_
  refine wp_iload dX11_feed_24 rfl ?_
  refine wp_callSp dX11_feed_26 mlX11_114 msX11_bytesIn (S_X11_bytesIn) rfl rfl (by decide) (by decide) (Nat.le_of_ble_eq_true rfl) ?_
  refine wp_iadd dX11_feed_29 ?_
  refine wp_iload dX11_feed_30 rfl ?_
  refine wp_callSp dX11_feed_32 mlX11_114 msX11_bytesIn (S_X11_bytesIn) rfl rfl (by decide) (by decide) (Nat.le_of_ble_eq_true rfl) ?_
  refine wp_iadd dX11_feed_35 ?_
  refine wp_sipush dX11_feed_36 rfl ?_
  refine wp_icmple 44 dX11_feed_39 (by decide) (by unfold InR; omega) (by unfold InR; omega) (fun c39 => ?_) (fun c39 => ?_)
  · refine wp_aload_n dX11_feed_44 rfl ?_
    refine wp_iload_n dX11_feed_45 rfl ?_
    refine wp_callV dX11_feed_46 mlX11_118 mvX11_put (S_X11_put (t := sT σ) (by omega) tp0) rfl rfl (by decide) (by decide) rfl rfl rfl (Nat.le_of_ble_eq_true rfl) ?_
    rintro rv h1 ⟨rfl, tp1, kp1⟩
    refine wp_aload_n dX11_feed_49 rfl ?_
    refine wp_iload_n dX11_feed_50 rfl ?_
    refine wp_callV dX11_feed_51 mlX11_118 mvX11_put (S_X11_put (t := sT σ ++ bsF a1 4) (by simp only [List.length_append]; omega) tp1) rfl rfl (by decide) (by decide) rfl rfl rfl (Nat.le_of_ble_eq_true rfl) ?_
    rintro rv h2 ⟨rfl, tp2, kp2⟩
    refine wp_aload_n dX11_feed_54 rfl ?_
    refine wp_iload_n dX11_feed_55 rfl ?_
    refine wp_callV dX11_feed_56 mlX11_118 mvX11_put (S_X11_put (t := sT σ ++ bsF a1 4 ++ bsF b1 4) (by simp only [List.length_append]; omega) tp2) rfl rfl (by decide) (by decide) rfl rfl rfl (Nat.le_of_ble_eq_true rfl) ?_
    rintro rv h3 ⟨rfl, tp3, kp3⟩
    refine wp_aload_n dX11_feed_59 rfl ?_
    refine wp_iload dX11_feed_60 rfl ?_
    refine wp_callV dX11_feed_62 mlX11_118 mvX11_put (S_X11_put (t := sT σ ++ bsF a1 4 ++ bsF b1 4 ++ bsF c1 4) (by simp only [List.length_append]; omega) tp3) rfl rfl (by decide) (by decide) rfl rfl rfl (Nat.le_of_ble_eq_true rfl) ?_
    rintro rv h4 ⟨rfl, tp4, kp4⟩
    refine wp_aload_n dX11_feed_65 rfl ?_
    refine wp_iload dX11_feed_66 rfl ?_
    refine wp_callV dX11_feed_68 mlX11_118 mvX11_put (S_X11_put (t := sT σ ++ bsF a1 4 ++ bsF b1 4 ++ bsF c1 4 ++ bsF d1 4) (by simp only [List.length_append]; omega) tp4) rfl rfl (by decide) (by decide) rfl rfl rfl (Nat.le_of_ble_eq_true rfl) ?_
    rintro rv h5 ⟨rfl, tp5, kp5⟩
    refine wp_aload_n dX11_feed_71 rfl ?_
    refine wp_getI dX11_feed_72 flX11_112 rfl rfl ?_
    exact wp_iret dX11_feed_75 rfl (by
  have kp := (((kp1.tr kp2).tr kp3).tr kp4).tr kp5
  have ee : sT σ ++ bsF a1 4 ++ bsF b1 4 ++ bsF c1 4 ++ bsF d1 4 ++ bsF e1 4 = sT σ ++ fdL a1 b1 c1 d1 e1 := by unfold fdL; simp only [List.append_assoc]
  rw [ee] at tp5
  refine ⟨vi (by unfold rFeed; rw [if_pos (by omega), tp5.1, List.length_append]; omega), ?_, sameC_tr k0.C (stM_C kp)⟩
  unfold nFeed
  rw [if_pos (by omega)]
  exact AM.setT am tp5 (fun c j q => kp.1 c j (fun z => q (Or.inr z))) (by rw [kp.2]))
  · refine wp_iconst dX11_feed_42 ?_
    exact wp_iret dX11_feed_43 rfl (⟨vi (by unfold rFeed; rw [if_neg (by omega)]), by unfold nFeed; rw [if_neg (by omega)]; exact am, k0.C⟩)

set_option maxRecDepth 20000 in
theorem S_X11_end {X : Cx} {h : Hp} {σ : Sg} (am : AM h σ) (o : SOK σ) {n : Int} (hn : InR n) : Spec X mX11_end 60 [.ref (adr X 47), .int (iI n)] h (fun rv h' => rv = some (.int (iI (rEnd σ n))) ∧ AM h' (nEnd σ n) ∧ sameC h h') := by
  refine spec_wp (Nat.le_of_ble_eq_true rfl) (by decide +kernel) ?_
  refine wp_loc [(0, .ref (adr X 47)), (1, .int (iI n))] ⟨rfl, rfl, trivial⟩ ?_
  refine wp_aload_n dX11_end_0 rfl ?_
  refine wp_iconst dX11_end_1 ?_
  refine wp_putI dX11_end_2 plX11_95 rfl rfl ?_
  have k0 : KM h (sI h 47 0 0) := KM.sI (by unfold SMx; omega)
  have am := am.km k0
  generalize sI h 47 0 0 = h0 at *
  have gk := o.2.2.2.1
  have gb := gk.b
  have gkb := gk.2.1
  have e4 : hI h0 47 24 = gP (sG σ) := am.2.2.2.2.1.1
  have e5 : hI h0 47 26 = gA (sG σ) := am.2.2.2.2.1.2.1
  have e6 : hI h0 47 27 = gK (sG σ) := am.2.2.2.2.1.2.2.1
  have em : GM h0 = gE (sG σ) := am.gm
  have ep : gP (GM h0) = gP (sG σ) := e4
  have tp0 : TPm h0 (sT σ) := am.1
  have t1 := tp0.1
  have tl := o.1.1
  refine wp_iload_n dX11_end_5 rfl ?_
  refine wp_iflt 17 dX11_end_6 (by decide) (by first | assumption | (unfold InR; omega)) (fun c6 => ?_) (fun c6 => ?_)
  · refine wp_iconst dX11_end_17 ?_
    exact wp_zret dX11_end_18 rfl (by omega) (⟨vb0 (by omega), by unfold nEnd; rw [if_neg (by omega)]; exact am, k0.C⟩)
  · refine wp_iload_n dX11_end_9 rfl ?_
    refine wp_aload_n dX11_end_10 rfl ?_
    refine wp_getI dX11_end_11 flX11_112 rfl rfl ?_
    rw [t1]
    refine wp_icmple 19 dX11_end_14 (by decide) (by first | assumption | (unfold InR; omega)) (by first | assumption | (unfold InR; omega)) (fun c14 => ?_) (fun c14 => ?_)
    · refine wp_aload_n dX11_end_19 rfl ?_
      refine wp_iload_n dX11_end_20 rfl ?_
      refine wp_putI dX11_end_21 plX11_112 rfl rfl ?_
      refine wp_iconst dX11_end_24 ?_
      exact wp_zret dX11_end_25 rfl (by omega) (by
  refine ⟨vb1 (by omega), ?_, sameC_tr k0.C (stM_C (Kp.sI (Or.inr ⟨rfl, rfl⟩)))⟩
  unfold nEnd
  rw [if_pos (by omega)]
  refine AM.setT am ⟨by rw [hI_same, List.length_take]; omega, fun i hi => ?_⟩ (fun c j q => by rw [hI_sI, if_neg (by unfold stM at q; omega)]) rfl
  rw [List.length_take] at hi
  rw [hI_sI, if_neg (by omega), tp0.2 i (by omega), List.getD_eq_getElem?_getD, List.getD_eq_getElem?_getD, List.getElem?_take_of_lt (by omega)])
    · refine wp_iconst dX11_end_17 ?_
      exact wp_zret dX11_end_18 rfl (by omega) (⟨vb0 (by omega), by unfold nEnd; rw [if_neg (by omega)]; exact am, k0.C⟩)

