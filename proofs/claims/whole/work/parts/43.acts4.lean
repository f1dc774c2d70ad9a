/-! ACTS: drawn, undo, image, back -/
theorem drK_M {h : Hp} {b : Nat} {x : Int64} {m : Int} {k : Nat} (hb : b < 47) : sameM h (drK h b x m k) := fun c hc => ⟨funext fun j => drK_I (by omega), funext fun j => by show hL (drK h b x m k) c j = hL h c j; unfold drK; rw [hL_sL, if_neg (by omega)]; rfl, rfl⟩

set_option maxRecDepth 20000 in
theorem S_X10_drawn {X : Cx} {h : Hp} {σ : Sg} (a : AC h σ) (o : SOK σ) {x : Int64} {m : Int} (hm : InR m) : Spec X mX10_drawn 30 [.ref (adr X 0), .long x, .int (iI m)] h (fun rv h' => rv = some (.int (iI (rDrawn σ m))) ∧ AC h' (nDrawn σ x m) ∧ sameM h h') := by
  have g := a.gb o
  have hG := g.1
  have gk := o.2.2.2.1
  have gb := gk.b
  have gkb := gk.2.1
  have e4 : hI h (hR h 0 6) 4 = gP (sG σ) := a.2.2.2.2.1.1
  have e5 : hI h (hR h 0 6) 5 = gA (sG σ) := a.2.2.2.2.1.2.1
  have e6 : hI h (hR h 0 6) 6 = gK (sG σ) := a.2.2.2.2.1.2.2.1
  have he : hI h (hR h 0 6) 4 % 2 = 0 := by omega
  obtain ⟨z1, z2, z3, z4⟩ := a.2.2.2.2.2.2.1
  have z5 := o.2.2.2.2.2.1.1
  have gg : hR h 0 6 = 20 ∨ hR h 0 6 = 25 := hG
  refine spec_wp (Nat.le_of_ble_eq_true rfl) (by decide +kernel) ?_
  refine wp_loc [(0, .ref (adr X 0)), (1, .long x), (3, .int (iI m))] ⟨rfl, rfl, rfl, trivial⟩ ?_
  refine wp_aload_n dX10_drawn_0 rfl ?_
  refine wp_callVp dX10_drawn_1 mlX10_148 mvX10_noGarden (S_X10_noGarden g) rfl rfl (by decide) (by decide) rfl rfl rfl (Nat.le_of_ble_eq_true rfl) ?_
  refine wp_ifneb 14 dX10_drawn_4 (by decide) (fun c4 => ?_) (fun c4 => ?_)
  · refine wp_iconst dX10_drawn_14 ?_
    exact wp_iret dX10_drawn_15 rfl (⟨vi (by unfold rDrawn; rw [if_neg (by omega)]), by unfold nDrawn; rw [if_neg (by omega)]; exact a, sameM_rf h⟩)
  · refine wp_iload_n dX10_drawn_7 rfl ?_
    refine wp_callSp dX10_drawn_8 mlX10_253 msX10_isTold (S_X10_isTold (by first | assumption | (unfold InR; omega))) rfl rfl (by decide) (by decide) (Nat.le_of_ble_eq_true rfl) ?_
    refine wp_ifneb 16 dX10_drawn_11 (by decide) (fun c11 => ?_) (fun c11 => ?_)
    · refine wp_aload_n dX10_drawn_16 rfl ?_
      refine wp_getC dX10_drawn_17 flX10_63 rfl rfl ?_
      refine wp_aload_n dX10_drawn_20 rfl ?_
      refine wp_getM dX10_drawn_21 flX10_46 rfl rfl ?_
      refine wp_callVv dX10_drawn_24 mlX10_355 mvX0_keep (S_X0_keep hG (by omega) (by omega)) rfl rfl (by decide) (by decide) rfl rfl rfl (Nat.le_of_ble_eq_true rfl) ?_
      have ak := a.kp o
      have ok := o.push (by omega)
      have k4 : hI (kpH h (hR h 0 6)) (hR h 0 6) 4 = gP (sG σ) := by rw [kpH_I (by omega) (by omega)]; exact e4
      have k33 : hI (kpH h (hR h 0 6)) 33 2 = (sAc (pushA σ)).length := ak.2.2.2.2.2.2.1.1
      refine wp_aload_n dX10_drawn_27 rfl ?_
      refine wp_getC dX10_drawn_28 flX10_92 rfl rfl ?_
      refine wp_lload_n dX10_drawn_31 rfl ?_
      refine wp_putL dX10_drawn_32 plX10_334 rfl rfl ?_
      have of1 : OffS (kpH h (hR h 0 6)) (sL (kpH h (hR h 0 6)) 44 0 x) := OffS.sL (Or.inr (by decide))
      have ak := ak.off ok of1
      have s1 := sameM_tr kpH_M of1.M
      have hx1 : hL (sL (kpH h (hR h 0 6)) 44 0 x) 44 0 = x := by rw [hL_sL, if_pos ⟨rfl, rfl⟩]
      have h61 : hR (sL (kpH h (hR h 0 6)) 44 0 x) 0 6 = hR h 0 6 := rfl
      have k331 : hI (sL (kpH h (hR h 0 6)) 44 0 x) 33 2 = (sAc (pushA σ)).length := k33
      generalize sL (kpH h (hR h 0 6)) 44 0 x = h1 at ak s1 hx1 h61 k331 ⊢
      have gq := ak.gb ok
      have hG1 := gq.1
      have gg1 : hR h1 0 6 = 20 ∨ hR h1 0 6 = 25 := hG1
      have ek4 : hI h1 (hR h1 0 6) 4 = gP (sG σ) := ak.2.2.2.2.1.1
      refine wp_aload_n dX10_drawn_35 rfl ?_
      refine wp_aload_n dX10_drawn_36 rfl ?_
      refine wp_getM dX10_drawn_37 flX10_46 rfl rfl ?_
      refine wp_getC dX10_drawn_40 flX10_304 (gs0 hG1) rfl ?_
      refine wp_iload_n dX10_drawn_43 rfl ?_
      refine wp_callVv dX10_drawn_44 mlX10_338 mvX10_drawInto (S_X10_drawInto (b := hR h1 0 6 + 1) gq (gs1 hG1) (by omega) (by omega)) rfl rfl (by decide) (by decide) rfl rfl rfl (Nat.le_of_ble_eq_true rfl) ?_
      refine wp_aload_n dX10_drawn_47 rfl ?_
      refine wp_getC dX10_drawn_48 flX10_63 rfl rfl ?_
      refine wp_getI dX10_drawn_51 flX10_180 rfl rfl ?_
      exact wp_iret dX10_drawn_54 rfl (⟨vi (by unfold rDrawn; rw [if_pos (by omega), drK_I (by omega)]; exact k331), by
      unfold nDrawn
      rw [if_pos (by omega), hx1, ek4]
      refine ak.setL ok (drL σ x m) (fun c j q1 q2 => drK_I q1) rfl rfl (fun i hi => ?_) (fun i hi => ?_) (fun i hi => ?_) ?_
      · unfold drK
        rw [hI_sL, hI_sA, if_pos rfl]
        split
        · have := dval_b x (m := m + 1) (by omega) i; omega
        · exact ak.2.2.2.2.1.2.2.2.1 i hi
      · have hi : (i : Int) < gP (sG σ) := hi
        unfold drK drL
        rw [hI_sL, hI_sA, if_pos rfl, if_pos (by omega)]
        show _ = if 0 ≤ (i : Int) ∧ (i : Int) < gP (sG σ) then _ else _
        rw [if_pos (by omega)]
        rfl
      · rw [drK_I (by omega)]; exact (ak.lie ok).2 i hi
      · refine ⟨fun i => ?_, fun i hi => if_neg hi, gk.s, gk.2.2.1.2.2.2⟩
        show 0 ≤ (if 0 ≤ i ∧ i < gP (sG σ) then _ else _) ∧ (if 0 ≤ i ∧ i < gP (sG σ) then _ else _) ≤ (99 : Int)
        split
        · have := dval_b x (m := m + 1) (by omega) i.toNat; omega
        · omega, sameM_tr s1 (drK_M (by omega))⟩)
    · refine wp_iconst dX10_drawn_14 ?_
      exact wp_iret dX10_drawn_15 rfl (⟨vi (by unfold rDrawn; rw [if_neg (by omega)]), by unfold nDrawn; rw [if_neg (by omega)]; exact a, sameM_rf h⟩)

set_option maxRecDepth 20000 in
theorem S_X10_undo {X : Cx} {h : Hp} {σ : Sg} (a : AC h σ) (o : SOK σ)  : Spec X mX10_undo 30 [.ref (adr X 0)] h (fun rv h' => rv = some (.int (iI (rUndo σ))) ∧ AC h' (nUndo σ) ∧ sameM h h') := by
  have g := a.gb o
  have hG := g.1
  have gk := o.2.2.2.1
  have gb := gk.b
  have gkb := gk.2.1
  have e4 : hI h (hR h 0 6) 4 = gP (sG σ) := a.2.2.2.2.1.1
  have e5 : hI h (hR h 0 6) 5 = gA (sG σ) := a.2.2.2.2.1.2.1
  have e6 : hI h (hR h 0 6) 6 = gK (sG σ) := a.2.2.2.2.1.2.2.1
  have he : hI h (hR h 0 6) 4 % 2 = 0 := by omega
  obtain ⟨z1, z2, z3, z4⟩ := a.2.2.2.2.2.2.1
  have z5 := o.2.2.2.2.2.1.1
  have gg : hR h 0 6 = 20 ∨ hR h 0 6 = 25 := hG
  have hlen : (0 < hI h 33 2) ↔ sAc σ ≠ [] := by rw [z1]; cases sAc σ <;> simp
  refine spec_wp (Nat.le_of_ble_eq_true rfl) (by decide +kernel) ?_
  refine wp_loc [(0, .ref (adr X 0))] ⟨rfl, trivial⟩ ?_
  refine wp_aload_n dX10_undo_0 rfl ?_
  refine wp_getC dX10_undo_1 flX10_63 rfl rfl ?_
  refine wp_aload_n dX10_undo_4 rfl ?_
  refine wp_getM dX10_undo_5 flX10_46 rfl rfl ?_
  refine wp_callV dX10_undo_8 mlX10_362 mvX0_takeBack (S_X0_takeBack hG (by omega) (by omega)) rfl rfl (by decide) (by decide) rfl rfl rfl (Nat.le_of_ble_eq_true rfl) ?_
  rintro rv h1 ⟨rfl, rfl⟩
  refine wp_ifeqb 24 dX10_undo_11 (by decide) (fun c11 => ?_) (fun c11 => ?_)
  · rw [if_neg c11]
    have hnil : sAc σ = [] := Classical.byContradiction fun q => c11 (hlen.mpr q)
    refine wp_iconst dX10_undo_24 ?_
    exact wp_iret dX10_undo_25 rfl (⟨vi (by unfold rUndo; rw [hnil]), by unfold nUndo; rw [hnil]; exact a, sameM_rf h⟩)
  · rw [if_pos c11]
    obtain ⟨l, r, hlr⟩ : ∃ l r, sAc σ = l :: r := by
      cases hq : sAc σ with
      | nil => exact absurd hq (hlen.mp c11)
      | cons l r => exact ⟨l, r, rfl⟩
    obtain ⟨at1, at2, at3, at4, at5⟩ := a.tk o hlr
    have hlo : LOK (gP (sG σ)) l := o.2.2.2.2.2.1.2 l (by rw [hlr]; exact List.mem_cons_self)
    have o1 : SOK (setA σ r) := ⟨o.1, o.2.1, o.2.2.1, o.2.2.2.1, o.2.2.2.2.1, ⟨by have := o.2.2.2.2.2.1.1; rw [hlr, List.length_cons] at this; show r.length ≤ 40; omega, fun l2 q => o.2.2.2.2.2.1.2 l2 (by rw [hlr]; exact List.mem_cons_of_mem _ q)⟩, o.2.2.2.2.2.2.1, fun q => ⟨(o.2.2.2.2.2.2.2 q).1, (by have := (o.2.2.2.2.2.2.2 q).2.1; rw [hlr] at this; cases this), (o.2.2.2.2.2.2.2 q).2.2⟩⟩
    have an := at1.setL o1 (h' := rsH (tkH h) (hR h 0 6) 34 (hI (tkH h) 33 1 * 28).toNat) l (fun c j q1 q2 => rsH_I q1 q2) rfl rfl (fun i hi => by show 0 ≤ hI _ (hR h 0 6 + 1) i ∧ hI _ (hR h 0 6 + 1) i ≤ 99; rw [rsH_h hi]; exact at3 i hi) (fun i hi => by have hi : (i : Int) < gP (sG σ) := hi; show hI _ (hR h 0 6 + 1) i = _; rw [rsH_h (by omega)]; exact at2.1 i hi) (fun i hi => by show hI _ (hR h 0 6 + 2) i = _; rw [rsH_s (by omega) hi]; exact at2.2 i hi) hlo
    have k33 : hI (rsH (tkH h) (hR h 0 6) 34 (hI (tkH h) 33 1 * 28).toNat) 33 2 = r.length := an.2.2.2.2.2.2.1.1
    refine wp_aload_n dX10_undo_14 rfl ?_
    refine wp_getC dX10_undo_15 flX10_63 rfl rfl ?_
    refine wp_getI dX10_undo_18 flX10_180 rfl rfl ?_
    refine wp_goto 25 dX10_undo_21 (by decide) ?_
    exact wp_iret dX10_undo_25 rfl (⟨vi (by unfold rUndo; rw [hlr]; exact k33), by unfold nUndo; rw [hlr]; exact an, sameM_tr tkH_M (rsH_M (by omega))⟩)

set_option maxRecDepth 20000 in
theorem S_X10_image {X : Cx} {h : Hp} {σ : Sg} (a : AC h σ) (o : SOK σ)  : Spec X mX10_image 30 [.ref (adr X 0)] h (fun rv h' => rv = some (.int (iI (rImage σ))) ∧ AC h' (nImage σ) ∧ sameM h h') := by
  have g := a.gb o
  have hG := g.1
  have gk := o.2.2.2.1
  have gb := gk.b
  have gkb := gk.2.1
  have e4 : hI h (hR h 0 6) 4 = gP (sG σ) := a.2.2.2.2.1.1
  have e5 : hI h (hR h 0 6) 5 = gA (sG σ) := a.2.2.2.2.1.2.1
  have e6 : hI h (hR h 0 6) 6 = gK (sG σ) := a.2.2.2.2.1.2.2.1
  have he : hI h (hR h 0 6) 4 % 2 = 0 := by omega
  obtain ⟨z1, z2, z3, z4⟩ := a.2.2.2.2.2.2.1
  have z5 := o.2.2.2.2.2.1.1
  have gg : hR h 0 6 = 20 ∨ hR h 0 6 = 25 := hG
  refine spec_wp (Nat.le_of_ble_eq_true rfl) (by decide +kernel) ?_
  refine wp_loc [(0, .ref (adr X 0))] ⟨rfl, trivial⟩ ?_
  refine wp_aload_n dX10_image_0 rfl ?_
  refine wp_callVp dX10_image_1 mlX10_148 mvX10_noGarden (S_X10_noGarden g) rfl rfl (by decide) (by decide) rfl rfl rfl (Nat.le_of_ble_eq_true rfl) ?_
  refine wp_ifeqb 9 dX10_image_4 (by decide) (fun c4 => ?_) (fun c4 => ?_)
  · refine wp_aload_n dX10_image_9 rfl ?_
    refine wp_getM dX10_image_10 flX10_46 rfl rfl ?_
    refine wp_aload_n dX10_image_13 rfl ?_
    refine wp_getC dX10_image_14 flX10_67 rfl rfl ?_
    refine wp_iconst dX10_image_17 ?_
    refine wp_callVv dX10_image_18 mlX10_366 mvX3_store (S_X3_store (b := 35) (n0 := 28) hG rfl (by omega)) rfl rfl (by decide) (by decide) (gs0 hG) rfl rfl (Nat.le_of_ble_eq_true rfl) ?_
    refine wp_aload_n dX10_image_21 rfl ?_
    refine wp_iconst dX10_image_22 ?_
    refine wp_putZ dX10_image_23 plX10_71 rfl rfl (by omega) ?_
    have gg4 : hI (sI (stH h (hR h 0 6) 35 (0 : Int).toNat) 0 11 1) (hR h 0 6) 4 = gP (sG σ) := by rw [hI_sI, if_neg (by omega), stH_I (by omega)]; exact e4
    refine wp_aload_n dX10_image_26 rfl ?_
    refine wp_getM dX10_image_27 flX10_46 rfl rfl ?_
    refine wp_getI dX10_image_30 flX10_137 (gs0 hG) rfl ?_
    exact wp_iret dX10_image_33 rfl (⟨vi (by unfold rImage; rw [if_neg (by omega)]; exact gg4), by unfold nImage; rw [if_neg (by omega)]; exact a.imE o, sameM_tr (stH_M (by decide)) (sI_M (by decide))⟩)
  · refine wp_iconst dX10_image_7 ?_
    exact wp_iret dX10_image_8 rfl (⟨vi (by unfold rImage; rw [if_pos (by omega)]), by unfold nImage; rw [if_pos (by omega)]; exact a, sameM_rf h⟩)

set_option maxRecDepth 20000 in
theorem S_X10_back {X : Cx} {h : Hp} {σ : Sg} (a : AC h σ) (o : SOK σ)  : Spec X mX10_back 30 [.ref (adr X 0)] h (fun rv h' => rv = some (.int (iI (rBack σ))) ∧ AC h' (nBack σ) ∧ sameM h h') := by
  have g := a.gb o
  have hG := g.1
  have gk := o.2.2.2.1
  have gb := gk.b
  have gkb := gk.2.1
  have e4 : hI h (hR h 0 6) 4 = gP (sG σ) := a.2.2.2.2.1.1
  have e5 : hI h (hR h 0 6) 5 = gA (sG σ) := a.2.2.2.2.1.2.1
  have e6 : hI h (hR h 0 6) 6 = gK (sG σ) := a.2.2.2.2.1.2.2.1
  have he : hI h (hR h 0 6) 4 % 2 = 0 := by omega
  obtain ⟨z1, z2, z3, z4⟩ := a.2.2.2.2.2.2.1
  have z5 := o.2.2.2.2.2.1.1
  have gg : hR h 0 6 = 20 ∨ hR h 0 6 = 25 := hG
  have i1 := a.2.2.2.2.2.2.2.1.1
  have ib := b2i_z (c := (sIm σ).isSome = true)
  rw [← i1] at ib
  refine spec_wp (Nat.le_of_ble_eq_true rfl) (by decide +kernel) ?_
  refine wp_loc [(0, .ref (adr X 0))] ⟨rfl, trivial⟩ ?_
  refine wp_aload_n dX10_back_0 rfl ?_
  refine wp_getI dX10_back_1 flX10_71 rfl rfl ?_
  refine wp_ifne 9 dX10_back_4 (by decide) (by unfold InR; omega) (fun c4 => ?_) (fun c4 => ?_)
  · obtain ⟨l, hl⟩ : ∃ l, sIm σ = some l := by
      cases hq : sIm σ with
      | none => rw [hq] at i1; exact absurd (i1.trans (b2i_f (by simp))) c4
      | some l => exact ⟨l, rfl⟩
    obtain ⟨j1, j2⟩ := a.2.2.2.2.2.2.2.1.2 l hl
    have hlo : LOK (gP (sG σ)) l := o.2.2.2.2.2.2.1 l hl
    have an := a.setL o (h' := rsH h (hR h 0 6) 35 0) l (fun c j q1 q2 => rsH_I q1 q2) rfl rfl (fun i hi => by rw [rsH_h hi, Nat.zero_add]; exact j2 i hi) (fun i hi => by have q := j1.1 i hi; rw [rsH_h (by omega)]; exact q) (fun i hi => by rw [rsH_s (by omega) hi, Nat.zero_add]; exact j1.2 i hi) hlo
    have af := an.fgt (o.setL hlo)
    refine wp_aload_n dX10_back_9 rfl ?_
    refine wp_getM dX10_back_10 flX10_46 rfl rfl ?_
    refine wp_aload_n dX10_back_13 rfl ?_
    refine wp_getC dX10_back_14 flX10_67 rfl rfl ?_
    refine wp_iconst dX10_back_17 ?_
    refine wp_callVv dX10_back_18 mlX10_369 mvX3_restore (S_X3_restore (b := 35) (n0 := 28) hG rfl (by omega)) rfl rfl (by decide) (by decide) (gs0 hG) rfl rfl (Nat.le_of_ble_eq_true rfl) ?_
    refine wp_aload_n dX10_back_21 rfl ?_
    refine wp_getC dX10_back_22 flX10_63 rfl rfl ?_
    refine wp_callVv dX10_back_25 mlX10_131 mvX0_forget (S_X0_forget) rfl rfl (by decide) (by decide) rfl rfl rfl (Nat.le_of_ble_eq_true rfl) ?_
    have gg4 : hI (sI (sI (rsH h (hR h 0 6) 35 (0 : Int).toNat) 33 1 0) 33 2 0) (hR h 0 6) 4 = gP (sG σ) := by rw [hI_sI, if_neg (by omega), hI_sI, if_neg (by omega), rsH_I (by omega) (by omega)]; exact e4
    refine wp_aload_n dX10_back_28 rfl ?_
    refine wp_getM dX10_back_29 flX10_46 rfl rfl ?_
    refine wp_getI dX10_back_32 flX10_137 (gs0 hG) rfl ?_
    exact wp_iret dX10_back_35 rfl (⟨vi (by unfold rBack; rw [hl]; exact gg4), by unfold nBack; rw [hl]; exact af, sameM_tr (sameM_tr (rsH_M (by omega)) (sI_M (by decide))) (sI_M (by decide))⟩)
  · refine wp_iconst dX10_back_7 ?_
    exact wp_iret dX10_back_8 rfl (⟨vi (by unfold rBack; cases hq : sIm σ with | none => rfl | some l => rw [hq] at i1; rw [i1.trans (b2i_t rfl)] at c4; exact absurd c4 (by decide)), by unfold nBack; cases hq : sIm σ with | none => exact a | some l => rw [hq] at i1; rw [i1.trans (b2i_t rfl)] at c4; exact absurd c4 (by decide), sameM_rf h⟩)

