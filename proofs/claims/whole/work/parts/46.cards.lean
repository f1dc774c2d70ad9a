/-! CARDS: the table of sorts 2 and 3 -/
theorem AC.core4 {h h' : Hp} {σ : Sg} (a : AC h σ) (o : SOK σ) (hk : ∀ c j, (c < 36 ∨ 40 < c) → hI h' c j = hI h c j) (hr : h'.2 = h.2) (hb : CTB h' (gT (sG σ)) (gN (sG σ))) : AC h' σ := by
  have hw4 := o.2.1.1
  have h6 : hR h' 0 6 = hR h 0 6 := by unfold hR; rw [hr]
  have h7 : hR h' 0 7 = hR h 0 7 := by unfold hR; rw [hr]
  obtain ⟨⟨t1, t2⟩, ⟨w1, w2⟩, d1, r1, -, ⟨k1, k2⟩, -, -, -⟩ := id a
  refine ⟨⟨?_, fun i hi => ?_⟩, ⟨?_, fun w t ht => ?_⟩, ?_, r1.keep h6 h7 (fun i hi => hk _ i (by have := r1.b; omega)), a.gar (fun c j q1 q2 => hk c j (by omega)) h6, ⟨?_, fun i q hq => ?_⟩, a.actk (fun c j q => hk c j (by omega)), a.img (fun c j q => hk c j (by omega)), hb⟩
  · rw [hk 1 1 (by omega)]; exact t1
  · rw [hk 2 i (by omega)]; exact t2 i hi
  · rw [hk 0 4 (by omega)]; exact w1
  · obtain ⟨k, c, q1, q2, q3⟩ := w2 w t ht
    have hwl : w < (sW σ).length := (List.getElem?_eq_some_iff.mp ht).1
    exact ⟨k, c, q1, by rw [hk _ 1 (by omega)]; exact q2, fun i hi => by rw [hk _ i (by omega)]; exact q3 i hi⟩
  · rw [hk 0 5 (by omega)]; exact d1
  · rw [hk 30 2 (by omega)]; exact k1
  · rw [hk 31 i (by omega), hk 32 i (by omega)]; exact k2 i q hq
/-- only cells 37 .. 40 are others -/
def CB (h h' : Hp) : Prop := (∀ c j, (c < 37 ∨ 40 < c) → hI h' c j = hI h c j) ∧ h'.2 = h.2
theorem CB.rf (h : Hp) : CB h h := ⟨fun _ _ _ => rfl, rfl⟩
theorem CB.tr {h h1 h2 : Hp} (a : CB h h1) (b : CB h1 h2) : CB h h2 := ⟨fun c j q => (b.1 c j q).trans (a.1 c j q), b.2.trans a.2⟩
theorem CB.put {h : Hp} {c j : Nat} {v : Int} (hc : 37 ≤ c ∧ c ≤ 40) : CB h (sI h c j v) := ⟨fun d k q => by rw [hI_sI, if_neg (by omega)], rfl⟩
theorem CB.M {h h' : Hp} (r : CB h h') : sameM h h' := fun c hc => ⟨funext fun j => r.1 c j (by omega), by rw [r.2], by rw [r.2]⟩
theorem AC.cb {h h' : Hp} {σ : Sg} (a : AC h σ) (o : SOK σ) (r : CB h h') (hb : hI h 36 5 = 0) : AC h' σ := a.core4 o (fun c j q => r.1 c j (by omega)) r.2 (by rw [CTB, r.1 36 5 (by omega), hb]; exact ⟨Or.inl rfl, fun q => absurd q (by decide)⟩)
theorem nt_0 {h : Hp} {f s0 T2 T3 a b : Int} {t : Tb} (ht : tbAt h f t) (hs : s0 = T2 * a + T3 * b) (h1 : -f ≤ s0) (h2 : s0 ≤ f) (hn : ¬ (hI h 37 (s0 + f).toNat = -1 ∨ iabs a + iabs b < hI h 37 (s0 + f).toNat)) : tbAt (sI h 40 (s0 + f).toNat (hI h 40 (s0 + f).toNat + 1)) f (ntF T2 T3 a b t) := by
  intro s s1 s2
  obtain ⟨q1, q2, q3⟩ := ht s s1 s2
  have e40 : hI (sI h 40 (s0 + f).toNat (hI h 40 (s0 + f).toNat + 1)) 40 (s + f).toNat = if (s + f).toNat = (s0 + f).toNat then hI h 40 (s0 + f).toNat + 1 else hI h 40 (s + f).toNat := by
    rw [hI_sI]
    by_cases z : (s + f).toNat = (s0 + f).toNat
    · rw [if_pos ⟨rfl, z⟩, if_pos z]
    · rw [if_neg (fun w => z w.2), if_neg z]
  have eo : ∀ c j, c ≠ 40 → hI (sI h 40 (s0 + f).toNat (hI h 40 (s0 + f).toNat + 1)) c j = hI h c j := fun c j q => by rw [hI_sI, if_neg (fun w => q w.1)]
  rw [e40, eo 37 _ (by decide), eo 38 _ (by decide), eo 39 _ (by decide)]
  unfold ntF
  by_cases hz : s = s0
  · subst hz
    rw [q1] at hn
    rw [if_pos rfl, if_pos hs, if_neg hn]
    exact ⟨q1, by rw [q2], q3⟩
  · rw [if_neg (by omega), if_neg (by omega)]
    exact ⟨q1, q2, q3⟩
theorem nt_1 {h : Hp} {f s0 T2 T3 a b : Int} {t : Tb} (ht : tbAt h f t) (hs : s0 = T2 * a + T3 * b) (h1 : -f ≤ s0) (h2 : s0 ≤ f) (hn : hI h 37 (s0 + f).toNat = -1 ∨ iabs a + iabs b < hI h 37 (s0 + f).toNat) : tbAt (sI (sI (sI (sI h 40 (s0 + f).toNat (hI h 40 (s0 + f).toNat + 1)) 37 (s0 + f).toNat (iabs a + iabs b)) 38 (s0 + f).toNat a) 39 (s0 + f).toNat b) f (ntF T2 T3 a b t) := by
  intro s s1 s2
  obtain ⟨q1, q2, q3⟩ := ht s s1 s2
  have e37 : ∀ j, hI (sI (sI (sI (sI h 40 (s0 + f).toNat (hI h 40 (s0 + f).toNat + 1)) 37 (s0 + f).toNat (iabs a + iabs b)) 38 (s0 + f).toNat a) 39 (s0 + f).toNat b) 37 j = if j = (s0 + f).toNat then iabs a + iabs b else hI h 37 j := by
    intro j
    rw [hI_sI, if_neg (by omega), hI_sI, if_neg (by omega), hI_sI]
    by_cases z : j = (s0 + f).toNat
    · rw [if_pos ⟨rfl, z⟩, if_pos z]
    · rw [if_neg (fun w => z w.2), if_neg z, hI_sI, if_neg (by omega)]
  have e40 : ∀ j, hI (sI (sI (sI (sI h 40 (s0 + f).toNat (hI h 40 (s0 + f).toNat + 1)) 37 (s0 + f).toNat (iabs a + iabs b)) 38 (s0 + f).toNat a) 39 (s0 + f).toNat b) 40 j = if j = (s0 + f).toNat then hI h 40 (s0 + f).toNat + 1 else hI h 40 j := by
    intro j
    rw [hI_sI, if_neg (by omega), hI_sI, if_neg (by omega), hI_sI, if_neg (by omega), hI_sI]
    by_cases z : j = (s0 + f).toNat
    · rw [if_pos ⟨rfl, z⟩, if_pos z]
    · rw [if_neg (fun w => z w.2), if_neg z]
  have e38 : ∀ j, hI (sI (sI (sI (sI h 40 (s0 + f).toNat (hI h 40 (s0 + f).toNat + 1)) 37 (s0 + f).toNat (iabs a + iabs b)) 38 (s0 + f).toNat a) 39 (s0 + f).toNat b) 38 j = if j = (s0 + f).toNat then a else hI h 38 j := by
    intro j
    rw [hI_sI, if_neg (by omega), hI_sI]
    by_cases z : j = (s0 + f).toNat
    · rw [if_pos ⟨rfl, z⟩, if_pos z]
    · rw [if_neg (fun w => z w.2), if_neg z, hI_sI, if_neg (by omega), hI_sI, if_neg (by omega)]
  have e39 : ∀ j, hI (sI (sI (sI (sI h 40 (s0 + f).toNat (hI h 40 (s0 + f).toNat + 1)) 37 (s0 + f).toNat (iabs a + iabs b)) 38 (s0 + f).toNat a) 39 (s0 + f).toNat b) 39 j = if j = (s0 + f).toNat then b else hI h 39 j := by
    intro j
    rw [hI_sI]
    by_cases z : j = (s0 + f).toNat
    · rw [if_pos ⟨rfl, z⟩, if_pos z]
    · rw [if_neg (fun w => z w.2), if_neg z, hI_sI, if_neg (by omega), hI_sI, if_neg (by omega), hI_sI, if_neg (by omega)]
  rw [e37, e38, e39, e40]
  unfold ntF
  by_cases hz : s = s0
  · subst hz
    rw [q1] at hn
    rw [if_pos rfl, if_pos rfl, if_pos rfl, if_pos rfl, if_pos hs, if_pos hn]
    exact ⟨rfl, by rw [q2], fun _ => ⟨rfl, rfl⟩⟩
  · rw [if_neg (by omega), if_neg (by omega), if_neg (by omega), if_neg (by omega), if_neg (by omega)]
    exact ⟨q1, q2, q3⟩
theorem mul_bb {s z A B : Int} (hs : -A ≤ s ∧ s ≤ A) (hz : 0 ≤ z ∧ z ≤ B) (hA : 0 ≤ A) : -(z * A) ≤ z * s ∧ z * s ≤ z * A := by
  have h1 : z * s ≤ z * A := Int.mul_le_mul_of_nonneg_left hs.2 hz.1
  have h2 : z * -A ≤ z * s := Int.mul_le_mul_of_nonneg_left hs.1 hz.1
  rw [Int.mul_neg] at h2
  exact ⟨h2, h1⟩
theorem far_b {T N : Int → Int} (h2 : 1 ≤ T 2 ∧ T 2 ≤ 20 ∧ 0 ≤ N 2 ∧ N 2 ≤ 9) (h3 : 1 ≤ T 3 ∧ T 3 ≤ 20 ∧ 0 ≤ N 3 ∧ N 3 ≤ 9) : 0 ≤ far T N ∧ far T N ≤ 360 := by
  have a1 : T 2 * N 2 ≤ 20 * N 2 := Int.mul_le_mul_of_nonneg_right h2.2.1 h2.2.2.1
  have a2 : T 3 * N 3 ≤ 20 * N 3 := Int.mul_le_mul_of_nonneg_right h3.2.1 h3.2.2.1
  have a3 : 0 ≤ T 2 * N 2 := Int.mul_nonneg (by omega) h2.2.2.1
  have a4 : 0 ≤ T 3 * N 3 := Int.mul_nonneg (by omega) h3.2.2.1
  unfold far
  omega
