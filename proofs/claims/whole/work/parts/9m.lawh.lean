/-! the law's case of height -/
set_option maxRecDepth 20000 in
theorem S_X11_high2 {X : Cx} {h : Hp} {σ : Sg} (am : AM h σ) (o : SOK σ) {p : Int} (hp : InR p) : Spec X mX11_height 60 [.ref (adr X 47), .int (iI p)] h (fun rv h' => rv = some (.int (iI (qHigh σ p))) ∧ h' = sI h 47 0 (qThr σ p)) := by
  have gk := o.2.2.2.1
  have gb := gk.b
  have e4 : hI h 47 24 = gP (sG σ) := am.2.2.2.2.1.1
  refine spec_wp (Nat.le_of_ble_eq_true rfl) (by decide +kernel) ?_
  refine wp_loc [(0, .ref (adr X 47)), (1, .int (iI p))] ⟨rfl, rfl, trivial⟩ ?_
  refine wp_aload_n dX11_height_0 rfl ?_
  refine wp_aload_n dX11_height_1 rfl ?_
  refine wp_iload_n dX11_height_2 rfl ?_
  refine wp_callVp dX11_height_3 mlX11_290 mvX11_isTurning (S_X11_isTurning (by omega) hp) rfl rfl (by decide) (by decide) rfl rfl rfl (Nat.le_of_ble_eq_true rfl) ?_
  refine wp_ifeqb 13 dX11_height_6 (by decide) (fun c6 => ?_) (fun c6 => ?_)
  · refine wp_iconst dX11_height_13 ?_
    refine wp_putI dX11_height_14 plX11_95 rfl rfl ?_
    refine wp_aload_n dX11_height_17 rfl ?_
    refine wp_getI dX11_height_18 flX11_95 rfl rfl ?_
    rw [hI_same]
    refine wp_ifle 28 dX11_height_21 (by decide) (by first | assumption | (unfold InR; omega)) (fun c21 => ?_) (fun c21 => ?_)
    · exact absurd c21 (by decide)
    · refine wp_iconst dX11_height_24 ?_
      refine wp_goto 34 dX11_height_25 (by decide) ?_
      exact wp_iret dX11_height_34 rfl (⟨vi (by unfold qHigh; rw [if_neg (by omega)]), by unfold qThr; rw [if_neg (by omega)]⟩)
  · refine wp_iconst dX11_height_9 ?_
    refine wp_goto 14 dX11_height_10 (by decide) ?_
    refine wp_putI dX11_height_14 plX11_95 rfl rfl ?_
    refine wp_aload_n dX11_height_17 rfl ?_
    refine wp_getI dX11_height_18 flX11_95 rfl rfl ?_
    rw [hI_same]
    refine wp_ifle 28 dX11_height_21 (by decide) (by first | assumption | (unfold InR; omega)) (fun c21 => ?_) (fun c21 => ?_)
    · refine wp_aload_n dX11_height_28 rfl ?_
      refine wp_getC dX11_height_29 flX11_37 rfl rfl ?_
      refine wp_iload_n dX11_height_32 rfl ?_
      refine wp_iald (n := 24) dX11_height_33 rfl (by omega) (by omega) ?_
      rw [hI_sI, if_neg (by omega), am.hv (by omega)]
      exact wp_iret dX11_height_34 rfl (⟨vi (by unfold qHigh; rw [if_pos (by omega)]), by unfold qThr; rw [if_pos (by omega)]⟩)
    · exact absurd c21 (by decide)

theorem lc_height {X : Cx} {R : Room} {cn sn : Nat} {Ok : State → Array Value → Prop} {Z : State → Array Value → List Frame → State → Prop} {h : Hp} {S : Nat → Int} {L i : Nat} {σ : Sg} (hok : ∀ s args, Ok s args → ∀ w ∈ nbw, w.before args s = true) (hl0 : X.1.stackTraces = false) (K : LK X R cn sn S L i) (K2 : LK X R (cn + 1) (sn + 6) S L i) (hf : 63 ≤ R.frames) (hlo : 4200 ≤ R.locals) (hc : cn + 1 ≤ R.cells) (hs : sn + 6 ≤ R.slots) (a : AC h σ) (am : AM h σ) (o : SOK σ) (nx : ∀ (h9 : Hp) (σ9 : Sg), AC h9 σ9 → AM h9 σ9 → SOK σ9 → WG X mL R (cn + 1) (sn + 6) (QZ Ok Z) 1535 (lvL X i) [] h9) : WG X mL R cn sn (QZ Ok Z) 360 (lvL X i) [] h := by
  refine wp_aload_n dL_law_360 rfl ?_
  refine la_arg 1 ⟨rfl, rfl⟩ K dL_law_361 dL_law_362 dL_law_364 dL_law_365 dL_law_366 rfl (by decide) ?_
  refine wp_aload_n dL_law_367 rfl ?_
  refine la_height hok hl0 a o (K.2.2.2.1 _) dL_law_368 hf hlo hc hs (fun r h1 q1 => ?_)
  have key : ∀ (t : Int) (h1 : Hp), t = qThr σ (S (i + 1)) → (t = 0 → hL h1 70 0 = (iI (qHigh σ (S (i + 1)))).toInt64) → AC h1 σ → AM h1 σ → WG X mL R (cn + 1) (sn + 6) (QZ Ok Z) 371 (lvL X i) [.int (iI t)] h1 := by
    intro t h1 ht hv a1 am1
    subst ht
    have tb : InR (qThr σ (S (i + 1))) := by unfold qThr InR; split <;> decide
    refine wp_istore dL_law_371 (by decide) ?_
    refine wp_loc [(0, .ref (adr X 100)), (1, .ref (adr X 0)), (2, .ref (adr X 47)), (3, .ref (adr X 70)), (4, .int (iI i)), (5, .int (iI (qThr σ (S (i + 1)))))] ⟨rfl, rfl, rfl, rfl, rfl, rfl, trivial⟩ ?_
    refine wp_aload_n dL_law_373 rfl ?_
    refine la_arg 1 ⟨rfl, rfl⟩ K2 dL_law_374 dL_law_375 dL_law_377 dL_law_378 dL_law_379 rfl (by decide) ?_
    refine wg_callV (ci := 11) dL_law_380 mlL_42 mvX11_height (S_X11_high2 am1 o (K.2.2.2.1 _)) rfl rfl (K2.2.2.2.2.2 _ _ (by decide) (by decide)) rfl rfl rfl (Nat.le_of_ble_eq_true rfl) (fun r2 h2 q2 => ?_)
    obtain ⟨rfl, rfl⟩ := q2
    have h47 : hI (sI h1 47 0 (qThr σ (S (i + 1)))) 47 0 = qThr σ (S (i + 1)) := hI_same
    have am2 : AM (sI h1 47 0 (qThr σ (S (i + 1)))) σ := am1.km (KM.sI (by unfold SMx; omega))
    have s2 : sameC h1 (sI h1 47 0 (qThr σ (S (i + 1)))) := (KM.sI (by unfold SMx; omega)).C
    refine wp_istore dL_law_383 (by decide) ?_
    refine wp_loc [(0, .ref (adr X 100)), (1, .ref (adr X 0)), (2, .ref (adr X 47)), (3, .ref (adr X 70)), (4, .int (iI i)), (5, .int (iI (qThr σ (S (i + 1))))), (6, .int (iI (qHigh σ (S (i + 1)))))] ⟨rfl, rfl, rfl, rfl, rfl, rfl, rfl, trivial⟩ ?_
    refine wp_aload_n dL_law_385 rfl ?_
    refine wg_callV (ci := 11) dL_law_386 mlL_43 mvX11_thrown S_X11_thrown rfl rfl (K2.2.2.2.2.2 _ _ (by decide) (by decide)) rfl rfl rfl (Nat.le_of_ble_eq_true rfl) (fun r3 h3 q3 => ?_)
    obtain ⟨rfl, rfl⟩ := q3
    rw [h47]
    refine wp_iload dL_law_389 rfl ?_
    refine wp_eqs 396 dL_law_391 (by decide) ?_
    refine wp_iload dL_law_396 rfl ?_
    refine wp_ifne 413 dL_law_398 (by decide) tb (fun c1 => ?_) (fun c1 => ?_)
    · refine wp_goto 1535 dL_law_413 (by decide) ?_
      exact wp_loc (lvL X i) ⟨rfl, rfl, rfl, rfl, rfl, trivial⟩ (nx _ σ (a1.sC o s2) am2 o)
    · refine wp_aload_n dL_law_401 rfl ?_
      refine wp_iconst dL_law_402 ?_
      refine wp_lald dL_law_403 (a := 70) (n := 1) rfl (by decide) (by decide) ?_
      rw [show hL (sI h1 47 0 (qThr σ (S (i + 1)))) 70 (0 : Int).toNat = (iI (qHigh σ (S (i + 1)))).toInt64 from hv c1]
      refine wp_iload dL_law_404 rfl ?_
      refine wp_i2l dL_law_406 ?_
      refine wp_lcmps dL_law_407 ?_
      refine wp_ifeq 413 dL_law_408 (by decide) inR_0 (fun _ => ?_) (fun q => absurd rfl q)
      refine wp_goto 1535 dL_law_413 (by decide) ?_
      exact wp_loc (lvL X i) ⟨rfl, rfl, rfl, rfl, rfl, trivial⟩ (nx _ σ (a1.sC o s2) am2 o)
  rcases q1 with ⟨hpp, rfl, rfl⟩ | ⟨hpp, rfl, rfl⟩
  · exact key 0 _ (by unfold qThr; rw [if_pos hpp]) (fun _ => by rw [hL_sL, if_pos ⟨rfl, rfl⟩]) (a.s70 o) am.s70
  · exact key 1 _ (by unfold qThr; rw [if_neg hpp]) (fun q => absurd q (by decide)) a am
