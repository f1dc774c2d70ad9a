/-! fields, arrays, calls over WP -/
theorem cls_in {ci : Nat} {q : vw_C} (hc : vwCl[ci]? = some q) : ∀ w ∈ u_ws q.1 q.2.1 q.2.2, w ∈ wsG := by
  match ci, hc with
  | 0, hc => cases hc; exact ciX0
  | 1, hc => cases hc; exact ciX1
  | 2, hc => cases hc; exact ciX2
  | 3, hc => cases hc; exact ciX3
  | 4, hc => cases hc; exact ciX4
  | 5, hc => cases hc; exact ciX5
  | 6, hc => cases hc; exact ciX6
  | 7, hc => cases hc; exact ciX7
  | 8, hc => cases hc; exact ciX8
  | 9, hc => cases hc; exact ciX9
  | 10, hc => cases hc; exact ciX10
  | 11, hc => cases hc; exact ciX11
  | k + 12, hc => simp [vwCl] at hc
theorem cls_ty {ci : Nat} {q : vw_C} (hc : vwCl[ci]? = some q) : ∃ ty0 : Nat → FieldType, (∀ k, k < q.2.2 → parseFieldDescriptor (q.2.1 k).2.2.1 = some (ty0 k)) ∧ ∀ a, a < q.2.2 → ∀ b, b < q.2.2 → a ≠ b → (q.2.1 a).2.1 ≠ (q.2.1 b).2.1 := by
  match ci, hc with
  | 0, hc => cases hc; exact ⟨_, tyX0_ok, nmX0⟩
  | 1, hc => cases hc; exact ⟨_, tyX1_ok, nmX1⟩
  | 2, hc => cases hc; exact ⟨_, tyX2_ok, nmX2⟩
  | 3, hc => cases hc; exact ⟨_, tyX3_ok, nmX3⟩
  | 4, hc => cases hc; exact ⟨_, tyX4_ok, nmX4⟩
  | 5, hc => cases hc; exact ⟨_, tyX5_ok, nmX5⟩
  | 6, hc => cases hc; exact ⟨_, tyX6_ok, nmX6⟩
  | 7, hc => cases hc; exact ⟨_, tyX7_ok, nmX7⟩
  | 8, hc => cases hc; exact ⟨_, tyX8_ok, nmX8⟩
  | 9, hc => cases hc; exact ⟨_, tyX9_ok, nmX9⟩
  | 10, hc => cases hc; exact ⟨_, tyX10_ok, nmX10⟩
  | 11, hc => cases hc; exact ⟨_, tyX11_ok, nmX11⟩
  | k + 12, hc => simp [vwCl] at hc
section Heap
variable {X : Cx} {M M2 : Mt} {R : Room} {cn sn d pc : Nat} {Qf : State → Array Value → List Frame → State → Prop} {lv : List (Nat × Value)} {st : List Value} {h : Hp} {Post : Option Value → Hp → Prop}
theorem wp_get {idx ci j a kd : Nat} {ks : List Nat} (hd : decode M.2.1 pc = .ok (.getfield idx, 3)) (hf : FL M.1.cls idx ci j) (hs : shp[a]? = some (.inr (ci, ks))) (hk : ks[j]? = some kd) (k : WG X M R cn sn Qf (pc + 3) lv (lf X h a j kd :: st) h) : WG X M R cn sn Qf pc lv (.ref (adr X a) :: st) h := by
  intro p e s m args below meth c H locs ls hC hP hS hl
  obtain ⟨q, hq, hj, hw⟩ := hf
  have hg : (lfs X h a 0 ks)[j]? = some (lf X h a j kd) := by have := lfs_get (X := X) (h := h) (a := a) ks 0 j kd hk; rwa [Nat.zero_add] at this
  exact va_get (C := q.1) (T := q.2.1) (N := q.2.2) hC.1 hC.2.1 hC.2.2.2.2.2.1 (fun w hw => wsM_G (cls_in hq w hw)) hC.2.2.2.2.1 hC.2.2.2.2.2.2.2.1 hP a (wld_at hs) hq j hj (hC.2.2.2.2.2.1 _ (wsM_G hw)) (fun _ h9 => h9) hg hd (k p e s m args below meth c H locs _ hC hP hS hl)
theorem wp_getI {idx ci j a : Nat} {ks : List Nat} (hd : decode M.2.1 pc = .ok (.getfield idx, 3)) (hf : FL M.1.cls idx ci j) (hs : shp[a]? = some (.inr (ci, ks))) (hk : ks[j]? = some 0) (k : WG X M R cn sn Qf (pc + 3) lv (.int (iI (hI h a j)) :: st) h) : WG X M R cn sn Qf pc lv (.ref (adr X a) :: st) h := wp_get hd hf hs hk k
theorem wp_getL {idx ci j a : Nat} {ks : List Nat} (hd : decode M.2.1 pc = .ok (.getfield idx, 3)) (hf : FL M.1.cls idx ci j) (hs : shp[a]? = some (.inr (ci, ks))) (hk : ks[j]? = some 1) (k : WG X M R cn sn Qf (pc + 3) lv (.long (hL h a j) :: st) h) : WG X M R cn sn Qf pc lv (.ref (adr X a) :: st) h := wp_get hd hf hs hk k
theorem wp_getM {idx ci j a : Nat} {ks : List Nat} (hd : decode M.2.1 pc = .ok (.getfield idx, 3)) (hf : FL M.1.cls idx ci j) (hs : shp[a]? = some (.inr (ci, ks))) (hk : ks[j]? = some 2) (k : WG X M R cn sn Qf (pc + 3) lv (.ref (adr X (hR h a j)) :: st) h) : WG X M R cn sn Qf pc lv (.ref (adr X a) :: st) h := wp_get hd hf hs hk k
theorem wp_getC {idx ci j a b : Nat} {ks : List Nat} (hd : decode M.2.1 pc = .ok (.getfield idx, 3)) (hf : FL M.1.cls idx ci j) (hs : shp[a]? = some (.inr (ci, ks))) (hk : ks[j]? = some (b + 3)) (k : WG X M R cn sn Qf (pc + 3) lv (.ref (adr X b) :: st) h) : WG X M R cn sn Qf pc lv (.ref (adr X a) :: st) h := wp_get hd hf hs hk k
/-- a store into a field: h' is h but for this field -/
theorem wp_put {idx ci j a kd : Nat} {ks : List Nat} {ty : FieldType} {v : Value} {h' : Hp} (hd : decode M.2.1 pc = .ok (.putfield idx, 3)) (hf : PL M.1.cls idx ci j ty) (hs : shp[a]? = some (.inr (ci, ks))) (hk : ks[j]? = some kd) (hn : narrow ty v = v) (hfit : fits ty v = true) (hv : lf X h' a j kd = v) (hsame : ∀ t k', t ≠ j → lf X h' a t k' = lf X h a t k') (ho : ∀ b, b ≠ a → h'.1 b = h.1 b ∧ h'.2.1 b = h.2.1 b ∧ h'.2.2 b = h.2.2 b) (k : WG X M R cn sn Qf (pc + 3) lv st h') : WG X M R cn sn Qf pc lv (v :: .ref (adr X a) :: st) h := by
  intro p e s m args below meth c H locs ls hC hP hS hl
  obtain ⟨q, hq, hj, hw, hfin, hty⟩ := hf
  obtain ⟨ty0, h1, h2⟩ := cls_ty hq
  have hle : j < (lfs X h a 0 ks).length := by rw [lfs_length]; exact (List.getElem?_eq_some_iff.mp hk).1
  have hset : (wld X h).set a (adr X a, .inr (ci, (lfs X h a 0 ks).set j v)) = wld X h' := by
    refine wld_set hs ?_ ho
    show Sum.inr _ = Sum.inr _
    rw [lfs_set (h := h) (h' := h') (v := v) ks 0 j kd hk (by rw [Nat.zero_add]; exact hv) (fun t k' ht => hsame t k' (by omega))]
  refine va_put (C := q.1) (T := q.2.1) (N := q.2.2) hC.1 hC.2.1 hC.2.2.2.2.2.1 (fun w hw => wsM_G (cls_in hq w hw)) ty0 h1 h2 hC.2.2.2.2.1 hC.2.2.2.2.2.2.2.1 hP (wld_D hC.2.2.2.2.2.2.2.2.2 s.heap.size h) hS a (wld_at hs) hq j hj (hC.2.2.2.2.2.1 _ (wsM_G hw)) (fun _ h9 => h9) hfin hty hn hfit hle hd (fun H1 locs1 hP1 _ hS1 => ?_)
  rw [show (wld X h).set a (adr X a, .inr (ci, (lfs X h a 0 ks).set j v)) = wld X h' from hset] at hP1
  exact k p e s m args below meth c H1 locs1 _ hC hP1 hS1 hl
theorem lf_sI {a j t k' : Nat} {z : Int} (ht : t ≠ j) : lf X (sI h a j z) a t k' = lf X h a t k' := by
  unfold lf
  rw [hI_sI, hL_sI, hR_sI, if_neg (fun q => ht q.2)]
theorem so_sI {a j : Nat} {z : Int} : ∀ b, b ≠ a → (sI h a j z).1 b = h.1 b ∧ (sI h a j z).2.1 b = h.2.1 b ∧ (sI h a j z).2.2 b = h.2.2 b := fun b hb => ⟨by funext k; show up2 h.1 a j z b k = _; unfold up2; rw [if_neg (fun q => hb q.1)], rfl, rfl⟩
theorem wp_putI {idx ci j a : Nat} {ks : List Nat} {z : Int} (hd : decode M.2.1 pc = .ok (.putfield idx, 3)) (hf : PL M.1.cls idx ci j .int) (hs : shp[a]? = some (.inr (ci, ks))) (hk : ks[j]? = some 0) (k : WG X M R cn sn Qf (pc + 3) lv st (sI h a j z)) : WG X M R cn sn Qf pc lv (.int (iI z) :: .ref (adr X a) :: st) h :=
  wp_put hd hf hs hk rfl rfl (by show Value.int (iI (hI (sI h a j z) a j)) = _; rw [hI_sI, if_pos ⟨rfl, rfl⟩]) (fun t k' ht => lf_sI ht) so_sI k
theorem wp_putZ {idx ci j a : Nat} {ks : List Nat} {z : Int} (hd : decode M.2.1 pc = .ok (.putfield idx, 3)) (hf : PL M.1.cls idx ci j .boolean) (hs : shp[a]? = some (.inr (ci, ks))) (hk : ks[j]? = some 0) (hz : z = 0 ∨ z = 1) (k : WG X M R cn sn Qf (pc + 3) lv st (sI h a j z)) : WG X M R cn sn Qf pc lv (.int (iI z) :: .ref (adr X a) :: st) h :=
  wp_put hd hf hs hk (by rcases hz with rfl | rfl <;> rfl) (by rcases hz with rfl | rfl <;> rfl) (by show Value.int (iI (hI (sI h a j z) a j)) = _; rw [hI_sI, if_pos ⟨rfl, rfl⟩]) (fun t k' ht => lf_sI ht) so_sI k
theorem lf_sL {a j t k' : Nat} {x : Int64} (ht : t ≠ j) : lf X (sL h a j x) a t k' = lf X h a t k' := by
  unfold lf
  rw [hI_sL, hL_sL, hR_sL, if_neg (fun q => ht q.2)]
theorem lf_sR {a j t k' : Nat} {x : Nat} (ht : t ≠ j) : lf X (sR h a j x) a t k' = lf X h a t k' := by
  unfold lf
  rw [hI_sR, hL_sR, hR_sR, if_neg (fun q => ht q.2)]
theorem so_sL {a j : Nat} {z : Int64} : ∀ b, b ≠ a → (sL h a j z).1 b = h.1 b ∧ (sL h a j z).2.1 b = h.2.1 b ∧ (sL h a j z).2.2 b = h.2.2 b := fun b hb => ⟨rfl, by funext k; show up2 h.2.1 a j z b k = _; unfold up2; rw [if_neg (fun q => hb q.1)], rfl⟩
theorem so_sR {a j : Nat} {z : Nat} : ∀ b, b ≠ a → (sR h a j z).1 b = h.1 b ∧ (sR h a j z).2.1 b = h.2.1 b ∧ (sR h a j z).2.2 b = h.2.2 b := fun b hb => ⟨rfl, rfl, by funext k; show up2 h.2.2 a j z b k = _; unfold up2; rw [if_neg (fun q => hb q.1)]⟩
theorem wp_putL {idx ci j a : Nat} {ks : List Nat} {x : Int64} (hd : decode M.2.1 pc = .ok (.putfield idx, 3)) (hf : PL M.1.cls idx ci j .long) (hs : shp[a]? = some (.inr (ci, ks))) (hk : ks[j]? = some 1) (k : WG X M R cn sn Qf (pc + 3) lv st (sL h a j x)) : WG X M R cn sn Qf pc lv (.long x :: .ref (adr X a) :: st) h :=
  wp_put hd hf hs hk rfl rfl (by show Value.long (hL (sL h a j x) a j) = _; rw [hL_sL, if_pos ⟨rfl, rfl⟩]) (fun t k' ht => lf_sL ht) so_sL k
theorem wp_putM {idx ci j a b : Nat} {ks : List Nat} {ty : FieldType} (hd : decode M.2.1 pc = .ok (.putfield idx, 3)) (hf : PL M.1.cls idx ci j ty) (hs : shp[a]? = some (.inr (ci, ks))) (hk : ks[j]? = some 2) (hn : narrow ty (.ref (adr X b)) = .ref (adr X b)) (hfit : fits ty (.ref (adr X b)) = true) (k : WG X M R cn sn Qf (pc + 3) lv st (sR h a j b)) : WG X M R cn sn Qf pc lv (.ref (adr X b) :: .ref (adr X a) :: st) h :=
  wp_put hd hf hs hk hn hfit (by show Value.ref (adr X (hR (sR h a j b) a j)) = _; rw [hR_sR, if_pos ⟨rfl, rfl⟩]) (fun t k' ht => lf_sR ht) so_sR k
/-! arrays -/
theorem wp_iald {a n : Nat} {i : Int} (hd : decode M.2.1 pc = .ok (.iaload, 1)) (hs : shp[a]? = some (.inl (0, n))) (h0 : 0 ≤ i) (h1 : i < n) (k : WG X M R cn sn Qf (pc + 1) lv (.int (iI (hI h a i.toNat)) :: st) h) : WG X M R cn sn Qf pc lv (.int (iI i) :: .ref (adr X a) :: st) h := by
  intro p e s m args below meth c H locs ls hC hP hS hl
  have hn := shp_len hs
  obtain ⟨c1, c2⟩ := iI_clamp h0 h1 (by omega)
  refine va_iald hC.1 hC.2.1 hC.2.2.2.2.2.2.2.1 hP a 0 (wld_at hs) rfl c1 hd ?_
  rw [c2]
  exact k p e s m args below meth c H locs _ hC hP hS hl
theorem wp_bald {a n : Nat} {i : Int} (hd : decode M.2.1 pc = .ok (.baload, 1)) (hs : shp[a]? = some (.inl (1, n))) (h0 : 0 ≤ i) (h1 : i < n) (k : WG X M R cn sn Qf (pc + 1) lv (.int (iI (hI h a i.toNat)) :: st) h) : WG X M R cn sn Qf pc lv (.int (iI i) :: .ref (adr X a) :: st) h := by
  intro p e s m args below meth c H locs ls hC hP hS hl
  have hn := shp_len hs
  obtain ⟨c1, c2⟩ := iI_clamp h0 h1 (by omega)
  refine va_bald hC.1 hC.2.1 hC.2.2.2.2.2.2.2.1 hP a 1 (wld_at hs) rfl c1 hd ?_
  rw [c2]
  exact k p e s m args below meth c H locs _ hC hP hS hl
theorem wp_lald {a n : Nat} {i : Int} (hd : decode M.2.1 pc = .ok (.laload, 1)) (hs : shp[a]? = some (.inl (2, n))) (h0 : 0 ≤ i) (h1 : i < n) (k : WG X M R cn sn Qf (pc + 1) lv (.long (hL h a i.toNat) :: st) h) : WG X M R cn sn Qf pc lv (.int (iI i) :: .ref (adr X a) :: st) h := by
  intro p e s m args below meth c H locs ls hC hP hS hl
  have hn := shp_len hs
  obtain ⟨c1, c2⟩ := iI_clamp h0 h1 (by omega)
  refine va_lald hC.1 hC.2.1 hC.2.2.2.2.2.2.2.1 hP a 2 (wld_at hs) rfl c1 hd ?_
  rw [c2]
  exact k p e s m args below meth c H locs _ hC hP hS hl
theorem wp_aald {a n : Nat} {i : Int} (hd : decode M.2.1 pc = .ok (.aaload, 1)) (hs : shp[a]? = some (.inl (3, n))) (h0 : 0 ≤ i) (h1 : i < n) (k : WG X M R cn sn Qf (pc + 1) lv (.ref (adr X (8 + 3 * i.toNat)) :: st) h) : WG X M R cn sn Qf pc lv (.int (iI i) :: .ref (adr X a) :: st) h := by
  intro p e s m args below meth c H locs ls hC hP hS hl
  have hn := shp_len hs
  obtain ⟨c1, c2⟩ := iI_clamp h0 h1 (by omega)
  refine va_aldq hC.1 hC.2.1 hC.2.2.2.2.2.2.2.1 hP a 3 (wld_at hs) rfl c1 hd ?_
  rw [c2]
  exact k p e s m args below meth c H locs _ hC hP hS hl
theorem wp_alen {a t n : Nat} (hd : decode M.2.1 pc = .ok (.arraylength, 1)) (hs : shp[a]? = some (.inl (t, n))) (ht : t < 4) (k : WG X M R cn sn Qf (pc + 1) lv (.int (iI n) :: st) h) : WG X M R cn sn Qf pc lv (.ref (adr X a) :: st) h := by
  intro p e s m args below meth c H locs ls hC hP hS hl
  have k1 := k p e s m args below meth c H locs _ hC hP hS hl
  match t, ht with
  | 0, _ => exact va_alen hC.1 hC.2.1 hC.2.2.2.2.2.2.2.1 hP a 0 (wld_at hs) rfl (ofNat_iI n) hd k1
  | 1, _ => exact va_alen hC.1 hC.2.1 hC.2.2.2.2.2.2.2.1 hP a 1 (wld_at hs) rfl (ofNat_iI n) hd k1
  | 2, _ => exact va_alen hC.1 hC.2.1 hC.2.2.2.2.2.2.2.1 hP a 2 (wld_at hs) rfl (ofNat_iI n) hd k1
  | 3, _ => exact va_alen hC.1 hC.2.1 hC.2.2.2.2.2.2.2.1 hP a 3 (wld_at hs) rfl (ofNat_iI n) hd k1
theorem upd_iI {a i : Nat} {z : Int} : upd (fun j => iI (hI h a j)) i (iI z) = fun j => iI (hI (sI h a i z) a j) := by
  funext j
  unfold upd
  rw [hI_sI]
  by_cases hj : j = i
  · rw [if_pos hj, if_pos ⟨rfl, hj⟩]
  · rw [if_neg hj, if_neg (fun q => hj q.2)]
theorem wp_iast {a n : Nat} {i z : Int} (hd : decode M.2.1 pc = .ok (.iastore, 1)) (hs : shp[a]? = some (.inl (0, n))) (h0 : 0 ≤ i) (h1 : i < n) (k : WG X M R cn sn Qf (pc + 1) lv st (sI h a i.toNat z)) : WG X M R cn sn Qf pc lv (.int (iI z) :: .int (iI i) :: .ref (adr X a) :: st) h := by
  intro p e s m args below meth c H locs ls hC hP hS hl
  have hn := shp_len hs
  obtain ⟨c1, c2⟩ := iI_clamp h0 h1 (by omega)
  refine va_iast hC.1 hC.2.1 hC.2.2.2.2.2.2.2.1 hP (wld_D hC.2.2.2.2.2.2.2.2.2 s.heap.size h) hS a 0 (wld_at hs) rfl c1 hd (fun H1 locs1 hP1 _ hS1 => ?_)
  rw [c2, upd_iI] at hP1
  rw [show (wld X h).set a (adr X a, .inl (X.2.2.1 0, n, .inl (fun j => iI (hI (sI h a i.toNat z) a j)))) = wld X (sI h a i.toNat z) from wld_set hs rfl so_sI] at hP1
  exact k p e s m args below meth c H1 locs1 _ hC hP1 hS1 hl
theorem wp_bast {a n : Nat} {i z : Int} (hd : decode M.2.1 pc = .ok (.bastore, 1)) (hs : shp[a]? = some (.inl (1, n))) (h0 : 0 ≤ i) (h1 : i < n) (k : WG X M R cn sn Qf (pc + 1) lv st (sI h a i.toNat (iByte z))) : WG X M R cn sn Qf pc lv (.int (iI z) :: .int (iI i) :: .ref (adr X a) :: st) h := by
  intro p e s m args below meth c H locs ls hC hP hS hl
  have hn := shp_len hs
  obtain ⟨c1, c2⟩ := iI_clamp h0 h1 (by omega)
  refine va_bast hC.1 hC.2.1 hC.2.2.2.2.2.2.2.1 hP (wld_D hC.2.2.2.2.2.2.2.2.2 s.heap.size h) hS a 1 (wld_at hs) rfl c1 hd (fun H1 locs1 hP1 _ hS1 => ?_)
  have e1 : vp_nar .byte (iI z) = iI (iByte z) := by rw [vp_nar_byte]; exact (iI_of _).symm
  rw [c2, e1, upd_iI] at hP1
  rw [show (wld X h).set a (adr X a, .inl (X.2.2.1 1, n, .inl (fun j => iI (hI (sI h a i.toNat (iByte z)) a j)))) = wld X (sI h a i.toNat (iByte z)) from wld_set hs rfl so_sI] at hP1
  exact k p e s m args below meth c H1 locs1 _ hC hP1 hS1 hl
theorem wp_last {a n : Nat} {i : Int} {x : Int64} (hd : decode M.2.1 pc = .ok (.lastore, 1)) (hs : shp[a]? = some (.inl (2, n))) (h0 : 0 ≤ i) (h1 : i < n) (k : WG X M R cn sn Qf (pc + 1) lv st (sL h a i.toNat x)) : WG X M R cn sn Qf pc lv (.long x :: .int (iI i) :: .ref (adr X a) :: st) h := by
  intro p e s m args below meth c H locs ls hC hP hS hl
  have hn := shp_len hs
  obtain ⟨c1, c2⟩ := iI_clamp h0 h1 (by omega)
  refine va_last hC.1 hC.2.1 hC.2.2.2.2.2.2.2.1 hP (wld_D hC.2.2.2.2.2.2.2.2.2 s.heap.size h) hS a 2 (wld_at hs) rfl c1 hd (fun H1 locs1 hP1 _ hS1 => ?_)
  have e1 : vp_updL (fun j => hL h a j) i.toNat x = fun j => hL (sL h a i.toNat x) a j := by
    funext j
    unfold vp_updL
    rw [hL_sL]
    by_cases hj : j = i.toNat
    · rw [if_pos hj, if_pos ⟨rfl, hj⟩]
    · rw [if_neg hj, if_neg (fun q => hj q.2)]
  rw [c2, e1] at hP1
  rw [show (wld X h).set a (adr X a, .inl (X.2.2.1 2, n, .inr (.inl (fun j => hL (sL h a i.toNat x) a j)))) = wld X (sL h a i.toNat x) from wld_set hs rfl so_sL] at hP1
  exact k p e s m args below meth c H1 locs1 _ hC hP1 hS1 hl
/-- an int array that is only read -/
theorem wp_xald {q n : Nat} {f : Nat → Int} {i : Int} (hd : decode M.2.1 pc = .ok (.iaload, 1)) (hq : (q, n, f) ∈ X.2.2.2.2) (hn : n < 2147483648) (h0 : 0 ≤ i) (h1 : i < n) (k : WG X M R cn sn Qf (pc + 1) lv (.int (iI (f i.toNat)) :: st) h) : WG X M R cn sn Qf pc lv (.int (iI i) :: .ref (adr X q) :: st) h := by
  intro p e s m args below meth c H locs ls hC hP hS hl
  obtain ⟨c1, c2⟩ := iI_clamp h0 h1 hn
  refine va_ti hC.1 hC.2.1 (hC.2.2.2.2.2.2.2.2.1.1 _ hq) hS c1 (by rw [c2]) hd ?_
  exact k p e s m args below meth c H locs _ hC hP hS hl
theorem wp_xlen {q n : Nat} {f : Nat → Int} (hd : decode M.2.1 pc = .ok (.arraylength, 1)) (hq : (q, n, f) ∈ X.2.2.2.2) (k : WG X M R cn sn Qf (pc + 1) lv (.int (iI n) :: st) h) : WG X M R cn sn Qf pc lv (.ref (adr X q) :: st) h := by
  intro p e s m args below meth c H locs ls hC hP hS hl
  exact va_tlen hC.1 hC.2.1 (hC.2.2.2.2.2.2.2.2.1.1 _ hq) hS (ofNat_iI n) hd (k p e s m args below meth c H locs _ hC hP hS hl)
/-! calls -/
theorem pw_blind {av : List Value} {sz : Nat} : FrameBlind (va_Pc av (PW X h sz)) := by
  intro a U g mk q
  obtain ⟨q0, q1, qP, qK, qE, qI⟩ := q
  exact ⟨q0, q1, qP, va_K.moved (u := U) (U := U.calling g mk a) (Vm.Alike.refl U.vm) qK, EXT.call qE rfl, qI⟩
theorem pw_at {p : Program} {s : State} {m : MethodId} {args : Array Value} {meth : Method} {c : Code} {H : Heap} {locs : List Loc} {av : List Value} (hC : WC X M p s m args meth c) (hP : va_P X.2.1 vwCl (wld X h) H) (hS : va_S (AW X s.heap.size) s.heap H locs) : ∀ U : State, U.heap = H → s.WarmedH U.vm → va_Pc av (PW X h H.size) av.toArray U := by
  intro U hU hW
  subst hU
  exact ⟨rfl, rfl, hP, va_K.moved hW.alike hC.2.2.2.2.2.2.2.1, EXT.go hC.2.2.2.2.2.2.2.2.1 hW hS.2.1 (fun q hq => AW_mono hS.1 q hq), hC.2.2.2.2.2.2.2.2.2⟩
/-- behind a call -/
theorem wp_run {p : Program} {e : Env} {s : State} {m : MethodId} {args : Array Value} {below : List Frame} {meth : Method} {c : Code} {H : Heap} {locs : List Loc} {ls : Array Slot} {rest st0 : List Value} {av : Array Value} {PC : Option Value → Hp → Prop} (hC : WC X M p s m args meth c) (hS : va_S (AW X s.heap.size) s.heap H locs) (hl : lv_has ls M.2.2.1 lv)
    (hr : va_Run p X.1 e (rmD d) s m args below meth c H locs 0 0 0 0 (F0 m pc ls st0) rest (QP X PC av) (AW X H.size)) (k : ∀ (r : Option Value) (h' : Hp), PC r h' → WP X M d (pc + 3) lv (r.toList ++ rest) h' Post) : W p X.1 e (rmD d) s m args below meth c H locs 0 0 (MQ below (QP X Post) args s 0 0 (AW X s.heap.size)) (F0 m pc ls st0) := by
  intro T hT XT
  obtain ⟨v, st₀, t, T', L, h0, X', hL, e1, e2, ⟨⟨r, h', hv, hp, hb⟩, hz, hk⟩, stp⟩ := hr T hT XT
  cases hv
  rw [h0] at hz hk
  have hS' : va_S (AW X s.heap.size) s.heap T'.heap (locs ++ L) := by
    refine ⟨Nat.le_trans hS.1 (by rw [e1]; exact hz), fun q h1 h2 => ?_, fun q hq => ?_⟩
    · rw [e1, hk q (Nat.lt_of_lt_of_le h1 hS.1) (fun z => h2 (AW_mono hS.1 q z))]
      exact hS.2.1 q h1 h2
    · rcases List.mem_append.mp hq with h9 | h9
      · exact hS.2.2 q h9
      · exact AW_mono hS.1 _ (hL q h9)
  obtain ⟨t2, a1, b1⟩ := k v h' hp p e s m args below meth c T'.heap (locs ++ L) ls hC (by rw [e1]; exact hb) hS' hl T' rfl X'
  exact ⟨t2, stp t2 a1, b1⟩
theorem rm_ok {d2 n : Nat} (hd : d2 < d) (hn : n ≤ 40) : (rmD d2).frames + 1 ≤ (rmD d).frames ∧ 8 + (n + 11) + (rmD d2).locals ≤ (rmD d).locals := ⟨hd, by show 8 + (n + 11) + 64 * d2 ≤ 64 * d; omega⟩
theorem wp_callV {idx ci b n d2 : Nat} {ks : List Nat} {av rest : List Value} {PC : Option Value → Hp → Prop} {q : vw_C} (hd : decode M.2.1 pc = .ok (.invokevirtual idx, 3)) (hw : Cond.methodLink M.1.cls idx M2.1 ∈ wsG) (hm : MV M2 n) (hsp : Spec X M2 d2 (.ref (adr X b) :: av) h PC) (hst : st = av.reverse ++ .ref (adr X b) :: rest) (hn : av.length = n) (hdp : d2 < d) (hml : M2.2.2.1 ≤ 40) (hs : shp[b]? = some (.inr (ci, ks))) (hq : vwCl[ci]? = some q) (hqc : q.1 = M2.1.cls) (hrm : (rest.map fun v => v.category).sum ≤ 8) (k : ∀ (r : Option Value) (h' : Hp), PC r h' → WP X M d (pc + 3) lv (r.toList ++ rest) h' Post) : WP X M d pc lv st h Post := by
  intro p e s m args below meth c H locs ls hC hP hS hl
  obtain ⟨w1, w2, w3, w4, w5⟩ := hm
  have hts := hC.2.2.2.2.2.1
  have hrecv := va_recv hC.2.2.2.2.2.2.2.1 hP hq (wld_at hs)
  rw [hqc] at hrecv
  exact wp_run hC hS hl (va_runV (C := M2.1.cls) (b := adr X b) ⟨hC.1, hC.2.1, hC.2.2.2.1, hC.2.2.2.2.1, hts⟩ (hsp H.size) ⟨callB_of n hts (goodM w4) rfl rfl rfl (hts _ (wsM_G w3)) (hts _ (wsM_G hw)) w5 (rm_ok hdp hml), hts _ (wsM_G w1), hts _ (wsM_G w2)⟩ ⟨pw_blind, hrecv, fun U hU hW => pw_at hC hP hS U hU hW⟩ rfl hn hl.1 hst (lv_room hrm) hd ⟨Nat.zero_le _, Nat.zero_le _⟩) k
theorem wp_callS {idx n d2 : Nat} {av rest : List Value} {PC : Option Value → Hp → Prop} (hd : decode M.2.1 pc = .ok (.invokestatic idx, 3)) (hw : Cond.methodLink M.1.cls idx M2.1 ∈ wsG) (hm : MS M2 n) (hsp : Spec X M2 d2 av h PC) (hst : st = av.reverse ++ rest) (hn : av.length = n) (hdp : d2 < d) (hml : M2.2.2.1 ≤ 40) (hrm : (rest.map fun v => v.category).sum ≤ 8) (k : ∀ (r : Option Value) (h' : Hp), PC r h' → WP X M d (pc + 3) lv (r.toList ++ rest) h' Post) : WP X M d pc lv st h Post := by
  intro p e s m args below meth c H locs ls hC hP hS hl
  obtain ⟨w1, w3, w4, w5⟩ := hm
  have hts := hC.2.2.2.2.2.1
  exact wp_run hC hS hl (va_runS ⟨hC.1, hC.2.1, hC.2.2.2.1, hC.2.2.2.2.1, hts⟩ (hsp H.size) ⟨callB_of n hts (goodM w4) rfl rfl rfl (hts _ (wsM_G w3)) (hts _ (wsM_G hw)) w5 (rm_ok hdp hml), hts _ (wsM_G w1)⟩ ⟨pw_blind, fun U hU hW => pw_at hC hP hS U hU hW⟩ rfl hn hl.1 hst (lv_room hrm) hd ⟨Nat.zero_le _, Nat.zero_le _⟩) k
/-- the two private statics of the outer class, called by a nested one -/
theorem wp_callN {idx n d2 : Nat} {av rest : List Value} {PC : Option Value → Hp → Prop} (hd : decode M.2.1 pc = .ok (.invokestatic idx, 3)) (hw : (M.1.cls = RX3 ∧ idx = 44 ∧ M2.1 = yX10_isLeg) ∨ (M.1.cls = RX6 ∧ idx = 52 ∧ M2.1 = yX10_common)) (hm : MS M2 n) (hsp : Spec X M2 d2 av h PC) (hst : st = av.reverse ++ rest) (hn : av.length = n) (hdp : d2 < d) (hml : M2.2.2.1 ≤ 40) (hrm : (rest.map fun v => v.category).sum ≤ 8) (k : ∀ (r : Option Value) (h' : Hp), PC r h' → WP X M d (pc + 3) lv (r.toList ++ rest) h' Post) : WP X M d pc lv st h Post := by
  intro p e s m args below meth c H locs ls hC hP hS hl
  obtain ⟨w1, w3, w4, w5⟩ := hm
  have hts := hC.2.2.2.2.2.1
  have hE := hC.2.2.2.2.2.2.2.2.1
  have hnw : va_Nw (.methodLinkNest M.1.cls idx M2.1 RX10) s := by
    rcases hw with ⟨e1, e2, e3⟩ | ⟨e1, e2, e3⟩
    · rw [e1, e2, e3]; exact hE.2.2.2.2.2.1
    · rw [e1, e2, e3]; exact hE.2.2.2.2.2.2.1
  exact wp_run hC hS hl (va_runSN ⟨hC.1, hC.2.1, hC.2.2.2.1, hC.2.2.2.2.1, hts⟩ (hsp H.size) ⟨va_cnB n hts (goodM w4) rfl rfl rfl hnw (hts _ (wsM_G w3)) w5 (rm_ok hdp hml), hts _ (wsM_G w1), trivial⟩ ⟨pw_blind, fun U hU hW => pw_at hC hP hS U hU hW⟩ rfl hn hl.1 hst (lv_room hrm) hd ⟨Nat.zero_le _, Nat.zero_le _⟩) k
end Heap
section Heap2
variable {X : Cx} {M M2 : Mt} {d pc : Nat} {lv : List (Nat × Value)} {st : List Value} {h : Hp} {Post : Option Value → Hp → Prop}
theorem wp_callVp {idx ci b n d2 : Nat} {ks : List Nat} {av rest : List Value} {v : Value} {q : vw_C} (hd : decode M.2.1 pc = .ok (.invokevirtual idx, 3)) (hw : Cond.methodLink M.1.cls idx M2.1 ∈ wsG) (hm : MV M2 n) (hsp : Spec X M2 d2 (.ref (adr X b) :: av) h (fun r h' => r = some v ∧ h' = h)) (hst : st = av.reverse ++ .ref (adr X b) :: rest) (hn : av.length = n) (hdp : d2 < d) (hml : M2.2.2.1 ≤ 40) (hs : shp[b]? = some (.inr (ci, ks))) (hq : vwCl[ci]? = some q) (hqc : q.1 = M2.1.cls) (hrm : (rest.map fun v => v.category).sum ≤ 8) (k : WP X M d (pc + 3) lv (v :: rest) h Post) : WP X M d pc lv st h Post :=
  wp_callV hd hw hm hsp hst hn hdp hml hs hq hqc hrm (fun r h' e => by obtain ⟨rfl, rfl⟩ := e; exact k)
theorem wp_callSp {idx n d2 : Nat} {av rest : List Value} {v : Value} (hd : decode M.2.1 pc = .ok (.invokestatic idx, 3)) (hw : Cond.methodLink M.1.cls idx M2.1 ∈ wsG) (hm : MS M2 n) (hsp : Spec X M2 d2 av h (fun r h' => r = some v ∧ h' = h)) (hst : st = av.reverse ++ rest) (hn : av.length = n) (hdp : d2 < d) (hml : M2.2.2.1 ≤ 40) (hrm : (rest.map fun v => v.category).sum ≤ 8) (k : WP X M d (pc + 3) lv (v :: rest) h Post) : WP X M d pc lv st h Post :=
  wp_callS hd hw hm hsp hst hn hdp hml hrm (fun r h' e => by obtain ⟨rfl, rfl⟩ := e; exact k)
theorem wp_callNp {idx n d2 : Nat} {av rest : List Value} {v : Value} (hd : decode M.2.1 pc = .ok (.invokestatic idx, 3)) (hw : (M.1.cls = RX3 ∧ idx = 44 ∧ M2.1 = yX10_isLeg) ∨ (M.1.cls = RX6 ∧ idx = 52 ∧ M2.1 = yX10_common)) (hm : MS M2 n) (hsp : Spec X M2 d2 av h (fun r h' => r = some v ∧ h' = h)) (hst : st = av.reverse ++ rest) (hn : av.length = n) (hdp : d2 < d) (hml : M2.2.2.1 ≤ 40) (hrm : (rest.map fun v => v.category).sum ≤ 8) (k : WP X M d (pc + 3) lv (v :: rest) h Post) : WP X M d pc lv st h Post :=
  wp_callN hd hw hm hsp hst hn hdp hml hrm (fun r h' e => by obtain ⟨rfl, rfl⟩ := e; exact k)
theorem wp_callVv {idx ci b n d2 : Nat} {ks : List Nat} {av rest : List Value} {h2 : Hp} {q : vw_C} (hd : decode M.2.1 pc = .ok (.invokevirtual idx, 3)) (hw : Cond.methodLink M.1.cls idx M2.1 ∈ wsG) (hm : MV M2 n) (hsp : Spec X M2 d2 (.ref (adr X b) :: av) h (fun r h' => r = none ∧ h' = h2)) (hst : st = av.reverse ++ .ref (adr X b) :: rest) (hn : av.length = n) (hdp : d2 < d) (hml : M2.2.2.1 ≤ 40) (hs : shp[b]? = some (.inr (ci, ks))) (hq : vwCl[ci]? = some q) (hqc : q.1 = M2.1.cls) (hrm : (rest.map fun v => v.category).sum ≤ 8) (k : WP X M d (pc + 3) lv rest h2 Post) : WP X M d pc lv st h Post :=
  wp_callV hd hw hm hsp hst hn hdp hml hs hq hqc hrm (fun r h' e => by obtain ⟨rfl, rfl⟩ := e; exact k)
theorem wp_callSv {idx n d2 : Nat} {av rest : List Value} {h2 : Hp} (hd : decode M.2.1 pc = .ok (.invokestatic idx, 3)) (hw : Cond.methodLink M.1.cls idx M2.1 ∈ wsG) (hm : MS M2 n) (hsp : Spec X M2 d2 av h (fun r h' => r = none ∧ h' = h2)) (hst : st = av.reverse ++ rest) (hn : av.length = n) (hdp : d2 < d) (hml : M2.2.2.1 ≤ 40) (hrm : (rest.map fun v => v.category).sum ≤ 8) (k : WP X M d (pc + 3) lv rest h2 Post) : WP X M d pc lv st h Post :=
  wp_callS hd hw hm hsp hst hn hdp hml hrm (fun r h' e => by obtain ⟨rfl, rfl⟩ := e; exact k)
/-- the two gardens, the four wishes -/
def isG (a : Nat) : Prop := a = 20 ∨ a = 25
theorem gs0 {a : Nat} (h : isG a) : shp[a]? = some (.inr (3, [a + 1 + 3, a + 2 + 3, a + 3 + 3, a + 4 + 3, 0, 0, 0])) := by rcases h with rfl | rfl <;> rfl
theorem gs1 {a : Nat} (h : isG a) : shp[a + 1]? = some (.inl (0, 24)) := by rcases h with rfl | rfl <;> rfl
theorem gs2 {a : Nat} (h : isG a) : shp[a + 2]? = some (.inl (0, 4)) := by rcases h with rfl | rfl <;> rfl
theorem gs3 {a : Nat} (h : isG a) : shp[a + 3]? = some (.inl (0, 4)) := by rcases h with rfl | rfl <;> rfl
theorem gs4 {a : Nat} (h : isG a) : shp[a + 4]? = some (.inl (0, 4)) := by rcases h with rfl | rfl <;> rfl
def isW (a : Nat) : Prop := a = 8 ∨ a = 11 ∨ a = 14 ∨ a = 17
theorem ws0 {a : Nat} (h : isW a) : shp[a]? = some (.inr (8, [a + 1 + 3, 0, a + 2 + 3, 0])) := by rcases h with rfl | rfl | rfl | rfl <;> rfl
theorem ws1 {a : Nat} (h : isW a) : shp[a + 1]? = some (.inl (0, 160)) := by rcases h with rfl | rfl | rfl | rfl <;> rfl
theorem ws2 {a : Nat} (h : isW a) : shp[a + 2]? = some (.inl (0, 24)) := by rcases h with rfl | rfl | rfl | rfl <;> rfl
end Heap2
