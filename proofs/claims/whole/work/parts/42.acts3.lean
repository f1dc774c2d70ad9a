/-! ACTS: the class's methods -/
set_option maxRecDepth 20000 in
theorem S_X3_store {X : Cx} {h : Hp} {a b n0 : Nat} {f : Int} (hG : isG a) (hb : shp[b]? = some (.inl (0, n0))) (hf : 0 ≤ f ∧ f + 28 ≤ n0) : Spec X mX3_store 1 [.ref (adr X a), .ref (adr X b), .int (iI f)] h (fun rv h' => rv = none ∧ h' = stH h a b f.toNat) := by
  have hn := shp_len hb
  refine spec_wp (Nat.le_of_ble_eq_true rfl) (by decide +kernel) ?_
  refine wp_loc [(0, .ref (adr X a)), (1, .ref (adr X b)), (2, .int (iI f))] ⟨rfl, rfl, rfl, trivial⟩ ?_
  refine wp_iload_n dX3_store_0 rfl ?_
  refine wp_iflt 39 dX3_store_1 (by decide) (by unfold InR; omega) (fun c1 => ?_) (fun c1 => ?_)
  · exact absurd c1 (by omega)
  · refine wp_iload_n dX3_store_4 rfl ?_
    refine wp_aload_n dX3_store_5 rfl ?_
    refine wp_alen dX3_store_6 hb (by decide) ?_
    refine wp_bipush dX3_store_7 rfl ?_
    refine wp_isub dX3_store_9 ?_
    refine wp_icmpgt 39 dX3_store_10 (by decide) (by unfold InR; omega) (by unfold InR; omega) (fun c10 => ?_) (fun c10 => ?_)
    · exact absurd c10 (by omega)
    · refine wp_aload_n dX3_store_13 rfl ?_
      refine wp_getC dX3_store_14 flX3_9 (gs0 hG) rfl ?_
      refine wp_iconst dX3_store_17 ?_
      refine wp_aload_n dX3_store_18 rfl ?_
      refine wp_iload_n dX3_store_19 rfl ?_
      refine wp_bipush dX3_store_20 rfl ?_
      refine wp_acopy (n1 := n0) dX3_store_22 acX3 (gs1 hG) hb (by omega) (by omega) (by omega) (by omega) (by omega) (by decide) (Nat.le_of_ble_eq_true rfl) ?_
      refine wp_aload_n dX3_store_25 rfl ?_
      refine wp_getC dX3_store_26 flX3_15 (gs0 hG) rfl ?_
      refine wp_iconst dX3_store_29 ?_
      refine wp_aload_n dX3_store_30 rfl ?_
      refine wp_iload_n dX3_store_31 rfl ?_
      refine wp_bipush dX3_store_32 rfl ?_
      refine wp_iadd dX3_store_34 ?_
      refine wp_iconst dX3_store_35 ?_
      refine wp_acopy (n1 := n0) dX3_store_36 acX3 (gs2 hG) hb (by omega) (by omega) (by omega) (by omega) (by omega) (by decide) (Nat.le_of_ble_eq_true rfl) ?_
      exact wp_ret dX3_store_39 rfl (⟨rfl, by unfold stH; rw [show f.toNat + 24 = (f + 24).toNat by omega]; rfl⟩)

set_option maxRecDepth 20000 in
theorem S_X3_restore {X : Cx} {h : Hp} {a b n0 : Nat} {f : Int} (hG : isG a) (hb : shp[b]? = some (.inl (0, n0))) (hf : 0 ≤ f ∧ f + 28 ≤ n0) : Spec X mX3_restore 1 [.ref (adr X a), .ref (adr X b), .int (iI f)] h (fun rv h' => rv = none ∧ h' = rsH h a b f.toNat) := by
  have hn := shp_len hb
  refine spec_wp (Nat.le_of_ble_eq_true rfl) (by decide +kernel) ?_
  refine wp_loc [(0, .ref (adr X a)), (1, .ref (adr X b)), (2, .int (iI f))] ⟨rfl, rfl, rfl, trivial⟩ ?_
  refine wp_iload_n dX3_restore_0 rfl ?_
  refine wp_iflt 39 dX3_restore_1 (by decide) (by unfold InR; omega) (fun c1 => ?_) (fun c1 => ?_)
  · exact absurd c1 (by omega)
  · refine wp_iload_n dX3_restore_4 rfl ?_
    refine wp_aload_n dX3_restore_5 rfl ?_
    refine wp_alen dX3_restore_6 hb (by decide) ?_
    refine wp_bipush dX3_restore_7 rfl ?_
    refine wp_isub dX3_restore_9 ?_
    refine wp_icmpgt 39 dX3_restore_10 (by decide) (by unfold InR; omega) (by unfold InR; omega) (fun c10 => ?_) (fun c10 => ?_)
    · exact absurd c10 (by omega)
    · refine wp_aload_n dX3_restore_13 rfl ?_
      refine wp_iload_n dX3_restore_14 rfl ?_
      refine wp_aload_n dX3_restore_15 rfl ?_
      refine wp_getC dX3_restore_16 flX3_9 (gs0 hG) rfl ?_
      refine wp_iconst dX3_restore_19 ?_
      refine wp_bipush dX3_restore_20 rfl ?_
      refine wp_acopy (n0 := n0) dX3_restore_22 acX3 hb (gs1 hG) (by omega) (by omega) (by omega) (by omega) (by omega) (by decide) (Nat.le_of_ble_eq_true rfl) ?_
      refine wp_aload_n dX3_restore_25 rfl ?_
      refine wp_iload_n dX3_restore_26 rfl ?_
      refine wp_bipush dX3_restore_27 rfl ?_
      refine wp_iadd dX3_restore_29 ?_
      refine wp_aload_n dX3_restore_30 rfl ?_
      refine wp_getC dX3_restore_31 flX3_15 (gs0 hG) rfl ?_
      refine wp_iconst dX3_restore_34 ?_
      refine wp_iconst dX3_restore_35 ?_
      refine wp_acopy (n0 := n0) dX3_restore_36 acX3 hb (gs2 hG) (by omega) (by omega) (by omega) (by omega) (by omega) (by decide) (Nat.le_of_ble_eq_true rfl) ?_
      exact wp_ret dX3_restore_39 rfl (⟨rfl, by unfold rsH; rw [show f.toNat + 24 = (f + 24).toNat by omega]; rfl⟩)

set_option maxRecDepth 20000 in
theorem S_X0_forget {X : Cx} {h : Hp}  : Spec X mX0_forget 0 [.ref (adr X 33)] h (fun rv h' => rv = none ∧ h' = sI (sI h 33 1 0) 33 2 0) := by
  refine spec_wp (Nat.le_of_ble_eq_true rfl) (by decide +kernel) ?_
  refine wp_loc [(0, .ref (adr X 33))] ⟨rfl, trivial⟩ ?_
  refine wp_aload_n dX0_forget_0 rfl ?_
  refine wp_iconst dX0_forget_1 ?_
  refine wp_putI dX0_forget_2 plX0_15 rfl rfl ?_
  refine wp_aload_n dX0_forget_5 rfl ?_
  refine wp_iconst dX0_forget_6 ?_
  refine wp_putI dX0_forget_7 plX0_19 rfl rfl ?_
  exact wp_ret dX0_forget_10 rfl (⟨rfl, rfl⟩)

set_option maxRecDepth 20000 in
theorem S_X0_keep {X : Cx} {h : Hp} {a : Nat} (hG : isG a) (hn : 0 ≤ hI h 33 1 ∧ hI h 33 1 < 40) (hs : 0 ≤ hI h 33 2 ∧ hI h 33 2 ≤ 40) : Spec X mX0_keep 2 [.ref (adr X 33), .ref (adr X a)] h (fun rv h' => rv = none ∧ h' = kpH h a) := by
  refine spec_wp (Nat.le_of_ble_eq_true rfl) (by decide +kernel) ?_
  refine wp_loc [(0, .ref (adr X 33)), (1, .ref (adr X a))] ⟨rfl, rfl, trivial⟩ ?_
  refine wp_aload_n dX0_keep_0 rfl ?_
  refine wp_aload_n dX0_keep_1 rfl ?_
  refine wp_getC dX0_keep_2 flX0_11 rfl rfl ?_
  refine wp_aload_n dX0_keep_5 rfl ?_
  refine wp_getI dX0_keep_6 flX0_15 rfl rfl ?_
  refine wp_bipush dX0_keep_9 rfl ?_
  refine wp_imul dX0_keep_11 ?_
  refine wp_callV dX0_keep_12 mlX0_22 mvX3_store (S_X3_store (b := 34) (n0 := 1120) hG rfl (by omega)) rfl rfl (by decide) (by decide) (gs0 hG) rfl rfl (Nat.le_of_ble_eq_true rfl) ?_
  rintro rv h1 ⟨rfl, rfl⟩
  have k1 : hI (stH h a 34 (hI h 33 1 * 28).toNat) 33 1 = hI h 33 1 := stH_I (by decide)
  have k2 : hI (stH h a 34 (hI h 33 1 * 28).toNat) 33 2 = hI h 33 2 := stH_I (by decide)
  refine wp_aload_n dX0_keep_15 rfl ?_
  refine wp_aload_n dX0_keep_16 rfl ?_
  refine wp_getI dX0_keep_17 flX0_15 rfl rfl ?_
  refine wp_bipush dX0_keep_20 rfl ?_
  refine wp_icmpne 29 dX0_keep_22 (by decide) (by unfold InR; omega) (by unfold InR; omega) (fun c22 => ?_) (fun c22 => ?_)
  · refine wp_aload_n dX0_keep_29 rfl ?_
    refine wp_getI dX0_keep_30 flX0_15 rfl rfl ?_
    refine wp_iconst dX0_keep_33 ?_
    refine wp_iadd dX0_keep_34 ?_
    refine wp_putI dX0_keep_35 plX0_15 rfl rfl ?_
    refine wp_aload_n dX0_keep_38 rfl ?_
    refine wp_bipush dX0_keep_39 rfl ?_
    refine wp_aload_n dX0_keep_41 rfl ?_
    refine wp_getI dX0_keep_42 flX0_19 rfl rfl ?_
    refine wp_iconst dX0_keep_45 ?_
    refine wp_iadd dX0_keep_46 ?_
    rw [hI_sI, if_neg (by decide), k2]
    refine wp_callSp dX0_keep_47 mlX0_26 msJ9_min_7cf53 (S_J9_min_7cf53 (by unfold InR; omega) (by unfold InR; omega)) rfl rfl (by decide) (by decide) (Nat.le_of_ble_eq_true rfl) ?_
    refine wp_putI dX0_keep_50 plX0_19 rfl rfl ?_
    exact wp_ret dX0_keep_53 rfl (⟨rfl, by unfold kpH; first | rw [if_pos (by omega)] | rw [if_neg (by omega), k1]⟩)
  · refine wp_iconst dX0_keep_25 ?_
    refine wp_goto 35 dX0_keep_26 (by decide) ?_
    refine wp_putI dX0_keep_35 plX0_15 rfl rfl ?_
    refine wp_aload_n dX0_keep_38 rfl ?_
    refine wp_bipush dX0_keep_39 rfl ?_
    refine wp_aload_n dX0_keep_41 rfl ?_
    refine wp_getI dX0_keep_42 flX0_19 rfl rfl ?_
    refine wp_iconst dX0_keep_45 ?_
    refine wp_iadd dX0_keep_46 ?_
    rw [hI_sI, if_neg (by decide), k2]
    refine wp_callSp dX0_keep_47 mlX0_26 msJ9_min_7cf53 (S_J9_min_7cf53 (by unfold InR; omega) (by unfold InR; omega)) rfl rfl (by decide) (by decide) (Nat.le_of_ble_eq_true rfl) ?_
    refine wp_putI dX0_keep_50 plX0_19 rfl rfl ?_
    exact wp_ret dX0_keep_53 rfl (⟨rfl, by unfold kpH; first | rw [if_pos (by omega)] | rw [if_neg (by omega), k1]⟩)

set_option maxRecDepth 20000 in
theorem S_X0_takeBack {X : Cx} {h : Hp} {a : Nat} (hG : isG a) (hn : 0 ≤ hI h 33 1 ∧ hI h 33 1 < 40) (hs : 0 ≤ hI h 33 2 ∧ hI h 33 2 ≤ 40) : Spec X mX0_takeBack 2 [.ref (adr X 33), .ref (adr X a)] h (fun rv h' => rv = some (.int (iI (b2i (0 < hI h 33 2)))) ∧ h' = if 0 < hI h 33 2 then rsH (tkH h) a 34 (hI (tkH h) 33 1 * 28).toNat else h) := by
  refine spec_wp (Nat.le_of_ble_eq_true rfl) (by decide +kernel) ?_
  refine wp_loc [(0, .ref (adr X 33)), (1, .ref (adr X a))] ⟨rfl, rfl, trivial⟩ ?_
  refine wp_aload_n dX0_takeBack_0 rfl ?_
  refine wp_getI dX0_takeBack_1 flX0_19 rfl rfl ?_
  refine wp_ifgt 9 dX0_takeBack_4 (by decide) (by unfold InR; omega) (fun c4 => ?_) (fun c4 => ?_)
  · refine wp_aload_n dX0_takeBack_9 rfl ?_
    refine wp_aload_n dX0_takeBack_10 rfl ?_
    refine wp_getI dX0_takeBack_11 flX0_15 rfl rfl ?_
    refine wp_ifne 22 dX0_takeBack_14 (by decide) (by unfold InR; omega) (fun c14 => ?_) (fun c14 => ?_)
    · refine wp_aload_n dX0_takeBack_22 rfl ?_
      refine wp_getI dX0_takeBack_23 flX0_15 rfl rfl ?_
      refine wp_iconst dX0_takeBack_26 ?_
      refine wp_isub dX0_takeBack_27 ?_
      refine wp_putI dX0_takeBack_28 plX0_15 rfl rfl ?_
      refine wp_aload_n dX0_takeBack_31 rfl ?_
      refine wp_dup dX0_takeBack_32 rfl ?_
      refine wp_getI dX0_takeBack_33 flX0_19 rfl rfl ?_
      refine wp_iconst dX0_takeBack_36 ?_
      refine wp_isub dX0_takeBack_37 ?_
      rw [show ∀ v, hI (sI h 33 1 v) 33 2 = hI h 33 2 from fun v => by rw [hI_sI, if_neg (by decide)]]
      refine wp_putI dX0_takeBack_38 plX0_19 rfl rfl ?_
      first
        | rw [show sI (sI h 33 1 39) 33 2 (hI h 33 2 - 1) = tkH h by unfold tkH; rw [if_pos (by omega)]]
        | rw [show sI (sI h 33 1 (hI h 33 1 - 1)) 33 2 (hI h 33 2 - 1) = tkH h by unfold tkH; rw [if_neg (by omega)]]
      have tb : 0 ≤ hI (tkH h) 33 1 ∧ hI (tkH h) 33 1 < 40 := by unfold tkH; rw [hI_sI, if_neg (by decide), hI_sI, if_pos ⟨rfl, rfl⟩]; split <;> omega
      refine wp_aload_n dX0_takeBack_41 rfl ?_
      refine wp_aload_n dX0_takeBack_42 rfl ?_
      refine wp_getC dX0_takeBack_43 flX0_11 rfl rfl ?_
      refine wp_aload_n dX0_takeBack_46 rfl ?_
      refine wp_getI dX0_takeBack_47 flX0_15 rfl rfl ?_
      refine wp_bipush dX0_takeBack_50 rfl ?_
      refine wp_imul dX0_takeBack_52 ?_
      refine wp_callVv dX0_takeBack_53 mlX0_32 mvX3_restore (S_X3_restore (b := 34) (n0 := 1120) hG rfl (by omega)) rfl rfl (by decide) (by decide) (gs0 hG) rfl rfl (Nat.le_of_ble_eq_true rfl) ?_
      refine wp_iconst dX0_takeBack_56 ?_
      exact wp_zret dX0_takeBack_57 rfl (by omega) (⟨vb1 (by omega), by rw [if_pos (by omega)]⟩)
    · refine wp_bipush dX0_takeBack_17 rfl ?_
      refine wp_goto 28 dX0_takeBack_19 (by decide) ?_
      refine wp_putI dX0_takeBack_28 plX0_15 rfl rfl ?_
      refine wp_aload_n dX0_takeBack_31 rfl ?_
      refine wp_dup dX0_takeBack_32 rfl ?_
      refine wp_getI dX0_takeBack_33 flX0_19 rfl rfl ?_
      refine wp_iconst dX0_takeBack_36 ?_
      refine wp_isub dX0_takeBack_37 ?_
      rw [show ∀ v, hI (sI h 33 1 v) 33 2 = hI h 33 2 from fun v => by rw [hI_sI, if_neg (by decide)]]
      refine wp_putI dX0_takeBack_38 plX0_19 rfl rfl ?_
      first
        | rw [show sI (sI h 33 1 39) 33 2 (hI h 33 2 - 1) = tkH h by unfold tkH; rw [if_pos (by omega)]]
        | rw [show sI (sI h 33 1 (hI h 33 1 - 1)) 33 2 (hI h 33 2 - 1) = tkH h by unfold tkH; rw [if_neg (by omega)]]
      have tb : 0 ≤ hI (tkH h) 33 1 ∧ hI (tkH h) 33 1 < 40 := by unfold tkH; rw [hI_sI, if_neg (by decide), hI_sI, if_pos ⟨rfl, rfl⟩]; split <;> omega
      refine wp_aload_n dX0_takeBack_41 rfl ?_
      refine wp_aload_n dX0_takeBack_42 rfl ?_
      refine wp_getC dX0_takeBack_43 flX0_11 rfl rfl ?_
      refine wp_aload_n dX0_takeBack_46 rfl ?_
      refine wp_getI dX0_takeBack_47 flX0_15 rfl rfl ?_
      refine wp_bipush dX0_takeBack_50 rfl ?_
      refine wp_imul dX0_takeBack_52 ?_
      refine wp_callVv dX0_takeBack_53 mlX0_32 mvX3_restore (S_X3_restore (b := 34) (n0 := 1120) hG rfl (by omega)) rfl rfl (by decide) (by decide) (gs0 hG) rfl rfl (Nat.le_of_ble_eq_true rfl) ?_
      refine wp_iconst dX0_takeBack_56 ?_
      exact wp_zret dX0_takeBack_57 rfl (by omega) (⟨vb1 (by omega), by rw [if_pos (by omega)]⟩)
  · refine wp_iconst dX0_takeBack_7 ?_
    exact wp_zret dX0_takeBack_8 rfl (by omega) (⟨vb0 (by omega), by rw [if_neg (by omega)]⟩)

def sSaw (σ : Sg) (l b : Int) : Prop := 0 < gP (sG σ) ∧ (0 ≤ l ∧ l < 4) ∧ (1 ≤ b ∧ b ≤ 99) ∧ gS (sG σ) l + b ≤ 99
def nSaw (σ : Sg) (l b : Int) : Sg := if 0 < gP (sG σ) ∧ (0 ≤ l ∧ l < 4) ∧ (1 ≤ b ∧ b ≤ 99) ∧ gS (sG σ) l + b ≤ 99 then setG (pushA σ) (gSet (sG σ) (gH (sG σ), fun i => if i = l then gS (sG σ) i + b else gS (sG σ) i)) else σ
def rSaw (σ : Sg) (l b : Int) : Int := if 0 < gP (sG σ) ∧ (0 ≤ l ∧ l < 4) ∧ (1 ≤ b ∧ b ≤ 99) ∧ gS (sG σ) l + b ≤ 99 then (sAc (pushA σ)).length else -1
def nHeap (σ : Sg) (p v : Int) : Sg := if (0 ≤ p ∧ p < gP (sG σ)) ∧ (0 ≤ v ∧ v ≤ 99) ∧ gH (sG σ) p ≠ v then setG (pushA σ) (gSet (sG σ) (fun i => if i = p then v else gH (sG σ) i, gS (sG σ))) else σ
def rHeap (σ : Sg) (p v : Int) : Int := if (0 ≤ p ∧ p < gP (sG σ)) ∧ (0 ≤ v ∧ v ≤ 99) ∧ gH (sG σ) p ≠ v then (sAc (pushA σ)).length else -1
def drL (σ : Sg) (x : Int64) (m : Int) : Lie := (fun i => if 0 ≤ i ∧ i < gP (sG σ) then dval x (m + 1) i.toNat else 0, gS (sG σ))
def nDrawn (σ : Sg) (x : Int64) (m : Int) : Sg := if 0 < gP (sG σ) ∧ 0 ≤ m ∧ m ≤ 99 then setG (pushA σ) (gSet (sG σ) (drL σ x m)) else σ
def rDrawn (σ : Sg) (m : Int) : Int := if 0 < gP (sG σ) ∧ 0 ≤ m ∧ m ≤ 99 then (sAc (pushA σ)).length else -1
def nUndo (σ : Sg) : Sg := match sAc σ with
  | [] => σ
  | l :: r => setG (setA σ r) (gSet (sG σ) l)
def rUndo (σ : Sg) : Int := match sAc σ with
  | [] => -1
  | _ :: r => r.length
def nImage (σ : Sg) : Sg := if gP (sG σ) = 0 then σ else setI σ (some (gLie (sG σ)))
def rImage (σ : Sg) : Int := if gP (sG σ) = 0 then -1 else gP (sG σ)
def nBack (σ : Sg) : Sg := match sIm σ with
  | none => σ
  | some l => setA (setG σ (gSet (sG σ) l)) []
def rBack (σ : Sg) : Int := match sIm σ with
  | none => -1
  | some _ => gP (sG σ)
theorem kpH_M {h : Hp} {a : Nat} : sameM h (kpH h a) := fun c hc => ⟨funext fun j => kpH_I (by omega) (by omega), rfl, rfl⟩
theorem sI_M {h : Hp} {a j : Nat} {v : Int} (ha : a < 47) : sameM h (sI h a j v) := fun c hc => ⟨funext fun k => by show hI (sI h a j v) c k = hI h c k; rw [hI_sI, if_neg (by omega)], rfl, rfl⟩
theorem sL_M {h : Hp} {a j : Nat} {v : Int64} (ha : a < 47) : sameM h (sL h a j v) := fun c hc => ⟨rfl, funext fun k => by show hL (sL h a j v) c k = hL h c k; rw [hL_sL, if_neg (by omega)], rfl⟩
theorem rsH_M {h : Hp} {a b f : Nat} (ha : a < 30) : sameM h (rsH h a b f) := fun c hc => ⟨funext fun j => rsH_I (by omega) (by omega), rfl, rfl⟩
theorem stH_M {h : Hp} {a b f : Nat} (hb : b < 47) : sameM h (stH h a b f) := fun c hc => ⟨funext fun j => stH_I (by omega), rfl, rfl⟩
theorem tkH_M {h : Hp} : sameM h (tkH h) := fun c hc => ⟨funext fun j => tkH_I (by omega), rfl, rfl⟩
theorem kpH_2 {h : Hp} {a : Nat} : hI (kpH h a) 33 2 = min 40 (hI h 33 2 + 1) := by unfold kpH; rw [hI_sI, if_pos ⟨rfl, rfl⟩]

set_option maxRecDepth 20000 in
theorem S_X10_saw {X : Cx} {h : Hp} {σ : Sg} (a : AC h σ) (o : SOK σ) {l b : Int} (hl : InR l) (hb : InR b) : Spec X mX10_saw 30 [.ref (adr X 0), .int (iI l), .int (iI b)] h (fun rv h' => rv = some (.int (iI (rSaw σ l b))) ∧ AC h' (nSaw σ l b) ∧ sameM h h') := by
  have g := a.gb o
  have hG := g.1
  have gk := o.2.2.2.1
  have gb := gk.b
  have gkb := gk.2.1
  have e4 : hI h (hR h 0 6) 4 = gP (sG σ) := a.2.2.2.2.1.1
  have e5 : hI h (hR h 0 6) 5 = gA (sG σ) := a.2.2.2.2.1.2.1
  have e6 : hI h (hR h 0 6) 6 = gK (sG σ) := a.2.2.2.2.1.2.2.1
  have he : hI h (hR h 0 6) 4 % 2 = 0 := by omega
  obtain ⟨z1, z2, z3, z4⟩ := a.2.2.2.2.2.2.1
  have z5 := o.2.2.2.2.2.1.1
  have gg : hR h 0 6 = 20 ∨ hR h 0 6 = 25 := hG
  have eS : shO h (hR h 0 6) = gS (sG σ) := a.2.2.2.2.1.2.2.2.2.2.1
  have sb := gk.s l
  rw [← eS] at sb
  refine spec_wp (Nat.le_of_ble_eq_true rfl) (by decide +kernel) ?_
  refine wp_loc [(0, .ref (adr X 0)), (1, .int (iI l)), (2, .int (iI b))] ⟨rfl, rfl, rfl, trivial⟩ ?_
  refine wp_aload_n dX10_saw_0 rfl ?_
  refine wp_callVp dX10_saw_1 mlX10_148 mvX10_noGarden (S_X10_noGarden g) rfl rfl (by decide) (by decide) rfl rfl rfl (Nat.le_of_ble_eq_true rfl) ?_
  refine wp_ifneb 40 dX10_saw_4 (by decide) (fun c4 => ?_) (fun c4 => ?_)
  · refine wp_iconst dX10_saw_40 ?_
    exact wp_iret dX10_saw_41 rfl (⟨vi (by unfold rSaw; rw [if_neg (by rw [← eS]; omega)]), by unfold nSaw; rw [if_neg (by rw [← eS]; omega)]; exact a, sameM_rf h⟩)
  · refine wp_iload_n dX10_saw_7 rfl ?_
    refine wp_callSp dX10_saw_8 mlX10_162 msX10_isLeg (S_X10_isLeg (by first | assumption | (unfold InR; omega))) rfl rfl (by decide) (by decide) (Nat.le_of_ble_eq_true rfl) ?_
    refine wp_ifeqb 40 dX10_saw_11 (by decide) (fun c11 => ?_) (fun c11 => ?_)
    · refine wp_iconst dX10_saw_40 ?_
      exact wp_iret dX10_saw_41 rfl (⟨vi (by unfold rSaw; rw [if_neg (by rw [← eS]; omega)]), by unfold nSaw; rw [if_neg (by rw [← eS]; omega)]; exact a, sameM_rf h⟩)
    · refine wp_iload_n dX10_saw_14 rfl ?_
      refine wp_iconst dX10_saw_15 ?_
      refine wp_icmplt 40 dX10_saw_16 (by decide) (by first | assumption | (unfold InR; omega)) (by first | assumption | (unfold InR; omega)) (fun c16 => ?_) (fun c16 => ?_)
      · refine wp_iconst dX10_saw_40 ?_
        exact wp_iret dX10_saw_41 rfl (⟨vi (by unfold rSaw; rw [if_neg (by rw [← eS]; omega)]), by unfold nSaw; rw [if_neg (by rw [← eS]; omega)]; exact a, sameM_rf h⟩)
      · refine wp_iload_n dX10_saw_19 rfl ?_
        refine wp_bipush dX10_saw_20 rfl ?_
        refine wp_icmpgt 40 dX10_saw_22 (by decide) (by first | assumption | (unfold InR; omega)) (by first | assumption | (unfold InR; omega)) (fun c22 => ?_) (fun c22 => ?_)
        · refine wp_iconst dX10_saw_40 ?_
          exact wp_iret dX10_saw_41 rfl (⟨vi (by unfold rSaw; rw [if_neg (by rw [← eS]; omega)]), by unfold nSaw; rw [if_neg (by rw [← eS]; omega)]; exact a, sameM_rf h⟩)
        · refine wp_aload_n dX10_saw_25 rfl ?_
          refine wp_getM dX10_saw_26 flX10_46 rfl rfl ?_
          refine wp_iload_n dX10_saw_29 rfl ?_
          refine wp_callVp dX10_saw_30 mlX10_165 mvX3_shortOf (S_X3_shortOf g (by first | assumption | (unfold InR; omega))) rfl rfl (by decide) (by decide) (gs0 hG) rfl rfl (Nat.le_of_ble_eq_true rfl) ?_
          refine wp_iload_n dX10_saw_33 rfl ?_
          refine wp_iadd dX10_saw_34 ?_
          refine wp_bipush dX10_saw_35 rfl ?_
          refine wp_icmple 42 dX10_saw_37 (by decide) (by first | assumption | (unfold InR; omega)) (by first | assumption | (unfold InR; omega)) (fun c37 => ?_) (fun c37 => ?_)
          · refine wp_aload_n dX10_saw_42 rfl ?_
            refine wp_getC dX10_saw_43 flX10_63 rfl rfl ?_
            refine wp_aload_n dX10_saw_46 rfl ?_
            refine wp_getM dX10_saw_47 flX10_46 rfl rfl ?_
            refine wp_callVv dX10_saw_50 mlX10_355 mvX0_keep (S_X0_keep hG (by omega) (by omega)) rfl rfl (by decide) (by decide) rfl rfl rfl (Nat.le_of_ble_eq_true rfl) ?_
            have ak := a.kp o
            have ok := o.push (by omega)
            have k4 : hI (kpH h (hR h 0 6)) (hR h 0 6) 4 = gP (sG σ) := by rw [kpH_I (by omega) (by omega)]; exact e4
            have k33 : hI (kpH h (hR h 0 6)) 33 2 = (sAc (pushA σ)).length := ak.2.2.2.2.2.2.1.1
            refine wp_aload_n dX10_saw_53 rfl ?_
            refine wp_getM dX10_saw_54 flX10_46 rfl rfl ?_
            refine wp_getC dX10_saw_57 flX10_359 (gs0 hG) rfl ?_
            refine wp_iload_n dX10_saw_60 rfl ?_
            refine wp_dup2 dX10_saw_61 rfl rfl ?_
            refine wp_iald dX10_saw_62 (by first | rfl | exact gs1 hG | exact gs2 hG | exact gs3 hG | exact gs4 hG | exact ws1 hW | exact ws2 hW | assumption) (by omega) (by omega) ?_
            refine wp_iload_n dX10_saw_63 rfl ?_
            refine wp_iadd dX10_saw_64 ?_
            refine wp_iast dX10_saw_65 (gs2 hG) (by omega) (by omega) ?_
            rw [show hI (kpH h (hR h 0 6)) (hR (kpH h (hR h 0 6)) 0 6 + 2) l.toNat = gS (sG σ) l by rw [kpH_I (by show hR h 0 6 + 2 ≠ _; omega) (by show hR h 0 6 + 2 ≠ _; omega), ← eS]; unfold shO; rw [if_pos (by omega)]; rfl]
            refine wp_aload_n dX10_saw_66 rfl ?_
            refine wp_getC dX10_saw_67 flX10_63 rfl rfl ?_
            refine wp_getI dX10_saw_70 flX10_180 rfl rfl ?_
            exact wp_iret dX10_saw_73 rfl (⟨vi (by unfold rSaw; rw [if_pos (by rw [← eS]; omega), hI_sI, if_neg (by show ¬ (33 = hR h 0 6 + 2 ∧ _); omega)]; exact k33), by
      unfold nSaw
      rw [if_pos (by rw [← eS]; omega)]
      rw [eS] at *
      refine ak.setL ok (gH (sG σ), fun i => if i = l then gS (sG σ) i + b else gS (sG σ) i) (fun c j q1 q2 => by rw [hI_sI, if_neg (fun z => q2 z.1)]) rfl rfl (fun i hi => ?_) (fun i hi => ?_) (fun i hi => ?_) ?_
      · rw [hI_sI, if_neg (by omega)]; exact ak.2.2.2.2.1.2.2.2.1 i hi
      · rw [hI_sI, if_neg (by omega)]; exact (ak.lie ok).1 i hi
      · have q := (ak.lie ok).2 i hi
        show hI (sI _ _ _ _) _ i = if (i : Int) = l then _ else _
        rw [hI_sI]
        by_cases hil : (i : Int) = l
        · rw [if_pos ⟨rfl, by omega⟩, if_pos hil, hil]
        · rw [if_neg (by omega), if_neg hil]; exact q
      · refine ⟨gk.h, gk.2.2.1.2.1, fun i => ?_, fun i hi => ?_⟩
        · show 0 ≤ (if i = l then _ else _) ∧ (if i = l then _ else _) ≤ (99 : Int)
          have := gk.s i
          split
          · rename_i q; subst q; omega
          · exact this
        · show (if i = l then _ else _) = (0 : Int)
          rw [if_neg (by omega)]; exact gk.2.2.1.2.2.2 i hi, sameM_tr kpH_M (sI_M (by show hR h 0 6 + 2 < 47; omega))⟩)
          · refine wp_iconst dX10_saw_40 ?_
            exact wp_iret dX10_saw_41 rfl (⟨vi (by unfold rSaw; rw [if_neg (by rw [← eS]; omega)]), by unfold nSaw; rw [if_neg (by rw [← eS]; omega)]; exact a, sameM_rf h⟩)

set_option maxRecDepth 20000 in
theorem S_X10_heap {X : Cx} {h : Hp} {σ : Sg} (a : AC h σ) (o : SOK σ) {p v : Int} (hp : InR p) (hv : InR v) : Spec X mX10_heap 30 [.ref (adr X 0), .int (iI p), .int (iI v)] h (fun rv h' => rv = some (.int (iI (rHeap σ p v))) ∧ AC h' (nHeap σ p v) ∧ sameM h h') := by
  have g := a.gb o
  have hG := g.1
  have gk := o.2.2.2.1
  have gb := gk.b
  have gkb := gk.2.1
  have e4 : hI h (hR h 0 6) 4 = gP (sG σ) := a.2.2.2.2.1.1
  have e5 : hI h (hR h 0 6) 5 = gA (sG σ) := a.2.2.2.2.1.2.1
  have e6 : hI h (hR h 0 6) 6 = gK (sG σ) := a.2.2.2.2.1.2.2.1
  have he : hI h (hR h 0 6) 4 % 2 = 0 := by omega
  obtain ⟨z1, z2, z3, z4⟩ := a.2.2.2.2.2.2.1
  have z5 := o.2.2.2.2.2.1.1
  have gg : hR h 0 6 = 20 ∨ hR h 0 6 = 25 := hG
  have eH : htO h (hR h 0 6) = gH (sG σ) := a.2.2.2.2.1.2.2.2.2.1
  have hb := gk.h p
  rw [← eH] at hb
  refine spec_wp (Nat.le_of_ble_eq_true rfl) (by decide +kernel) ?_
  refine wp_loc [(0, .ref (adr X 0)), (1, .int (iI p)), (2, .int (iI v))] ⟨rfl, rfl, rfl, trivial⟩ ?_
  refine wp_aload_n dX10_heap_0 rfl ?_
  refine wp_getM dX10_heap_1 flX10_46 rfl rfl ?_
  refine wp_iload_n dX10_heap_4 rfl ?_
  refine wp_callVp dX10_heap_5 mlX10_152 mvX3_has (S_X3_has g (by first | assumption | (unfold InR; omega))) rfl rfl (by decide) (by decide) (gs0 hG) rfl rfl (Nat.le_of_ble_eq_true rfl) ?_
  refine wp_ifeqb 30 dX10_heap_8 (by decide) (fun c8 => ?_) (fun c8 => ?_)
  · refine wp_iconst dX10_heap_30 ?_
    exact wp_iret dX10_heap_31 rfl (⟨vi (by unfold rHeap; rw [if_neg (by rw [← eH]; omega)]), by unfold nHeap; rw [if_neg (by rw [← eH]; omega)]; exact a, sameM_rf h⟩)
  · refine wp_iload_n dX10_heap_11 rfl ?_
    refine wp_callSp dX10_heap_12 mlX10_253 msX10_isTold (S_X10_isTold (by first | assumption | (unfold InR; omega))) rfl rfl (by decide) (by decide) (Nat.le_of_ble_eq_true rfl) ?_
    refine wp_ifeqb 30 dX10_heap_15 (by decide) (fun c15 => ?_) (fun c15 => ?_)
    · refine wp_iconst dX10_heap_30 ?_
      exact wp_iret dX10_heap_31 rfl (⟨vi (by unfold rHeap; rw [if_neg (by rw [← eH]; omega)]), by unfold nHeap; rw [if_neg (by rw [← eH]; omega)]; exact a, sameM_rf h⟩)
    · refine wp_aload_n dX10_heap_18 rfl ?_
      refine wp_getM dX10_heap_19 flX10_46 rfl rfl ?_
      refine wp_iload_n dX10_heap_22 rfl ?_
      refine wp_callVp dX10_heap_23 mlX10_159 mvX3_heightOf (S_X3_heightOf g (by first | assumption | (unfold InR; omega))) rfl rfl (by decide) (by decide) (gs0 hG) rfl rfl (Nat.le_of_ble_eq_true rfl) ?_
      refine wp_iload_n dX10_heap_26 rfl ?_
      refine wp_icmpne 32 dX10_heap_27 (by decide) (by first | assumption | (unfold InR; omega)) (by first | assumption | (unfold InR; omega)) (fun c27 => ?_) (fun c27 => ?_)
      · refine wp_aload_n dX10_heap_32 rfl ?_
        refine wp_getC dX10_heap_33 flX10_63 rfl rfl ?_
        refine wp_aload_n dX10_heap_36 rfl ?_
        refine wp_getM dX10_heap_37 flX10_46 rfl rfl ?_
        refine wp_callVv dX10_heap_40 mlX10_355 mvX0_keep (S_X0_keep hG (by omega) (by omega)) rfl rfl (by decide) (by decide) rfl rfl rfl (Nat.le_of_ble_eq_true rfl) ?_
        have ak := a.kp o
        have ok := o.push (by omega)
        have k4 : hI (kpH h (hR h 0 6)) (hR h 0 6) 4 = gP (sG σ) := by rw [kpH_I (by omega) (by omega)]; exact e4
        have k33 : hI (kpH h (hR h 0 6)) 33 2 = (sAc (pushA σ)).length := ak.2.2.2.2.2.2.1.1
        refine wp_aload_n dX10_heap_43 rfl ?_
        refine wp_getM dX10_heap_44 flX10_46 rfl rfl ?_
        refine wp_getC dX10_heap_47 flX10_304 (gs0 hG) rfl ?_
        refine wp_iload_n dX10_heap_50 rfl ?_
        refine wp_iload_n dX10_heap_51 rfl ?_
        refine wp_iast dX10_heap_52 (by first | rfl | exact gs1 hG | exact gs2 hG | exact gs3 hG | exact gs4 hG | exact ws1 hW | exact ws2 hW | assumption) (by omega) (by omega) ?_
        refine wp_aload_n dX10_heap_53 rfl ?_
        refine wp_getC dX10_heap_54 flX10_63 rfl rfl ?_
        refine wp_getI dX10_heap_57 flX10_180 rfl rfl ?_
        exact wp_iret dX10_heap_60 rfl (⟨vi (by unfold rHeap; rw [if_pos (by rw [← eH]; omega), hI_sI, if_neg (by show ¬ (33 = hR h 0 6 + 1 ∧ _); omega)]; exact k33), by
      unfold nHeap
      rw [if_pos (by rw [← eH]; omega)]
      refine ak.setL ok (fun i => if i = p then v else gH (sG σ) i, gS (sG σ)) (fun c j q1 q2 => by rw [hI_sI, if_neg (fun z => q1 z.1)]) rfl rfl (fun i hi => ?_) (fun i hi => ?_) (fun i hi => ?_) ?_
      · rw [hI_sI]
        split
        · omega
        · exact ak.2.2.2.2.1.2.2.2.1 i hi
      · have q := (ak.lie ok).1 i hi
        show hI (sI _ _ _ _) _ i = if (i : Int) = p then _ else _
        rw [hI_sI]
        by_cases hil : (i : Int) = p
        · rw [if_pos ⟨rfl, by omega⟩, if_pos hil]
        · rw [if_neg (by omega), if_neg hil]; exact q
      · rw [hI_sI, if_neg (by omega)]; exact (ak.lie ok).2 i hi
      · refine ⟨fun i => ?_, fun i hi => ?_, gk.s, gk.2.2.1.2.2.2⟩
        · show 0 ≤ (if i = p then _ else _) ∧ (if i = p then _ else _) ≤ (99 : Int)
          have := gk.h i
          split
          · omega
          · exact this
        · show (if i = p then _ else _) = (0 : Int)
          have hi : ¬ (0 ≤ i ∧ i < gP (sG σ)) := hi
          rw [if_neg (by omega)]; exact gk.2.2.1.2.1 i hi, sameM_tr kpH_M (sI_M (by show hR h 0 6 + 1 < 47; omega))⟩)
      · refine wp_iconst dX10_heap_30 ?_
        exact wp_iret dX10_heap_31 rfl (⟨vi (by unfold rHeap; rw [if_neg (by rw [← eH]; omega)]), by unfold nHeap; rw [if_neg (by rw [← eH]; omega)]; exact a, sameM_rf h⟩)

