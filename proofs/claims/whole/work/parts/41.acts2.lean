/-! ACTS: told, taken back, forgotten, kept as an IMAGE -/
theorem AC.actk {h h' : Hp} {σ : Sg} (a : AC h σ) (hk : ∀ c j, c = 33 ∨ c = 34 → hI h' c j = hI h c j) :
    (hI h' 33 2 = (sAc σ).length ∧ 0 ≤ hI h' 33 1 ∧ hI h' 33 1 < 40 ∧ ∀ (k : Nat) (l : Lie), (sAc σ)[k]? = some l → lieAt h' (gP (sG σ)) 34 (28 * ((hI h' 33 1 - 1 - k) % 40).toNat) 34 (28 * ((hI h' 33 1 - 1 - k) % 40).toNat + 24) l ∧ ∀ i : Nat, i < 24 → 0 ≤ hI h' 34 (28 * ((hI h' 33 1 - 1 - k) % 40).toNat + i) ∧ hI h' 34 (28 * ((hI h' 33 1 - 1 - k) % 40).toNat + i) ≤ 99) := by
  obtain ⟨c1, c2, c3, c4⟩ := a.2.2.2.2.2.2.1
  rw [hk 33 2 (by omega), hk 33 1 (by omega)]
  refine ⟨c1, c2, c3, fun k l hl => ?_⟩
  obtain ⟨q1, q2⟩ := c4 k l hl
  refine ⟨⟨fun i hi => ?_, fun i hi => ?_⟩, fun i hi => ?_⟩
  · rw [hk 34 _ (by omega)]; exact q1.1 i hi
  · rw [hk 34 _ (by omega)]; exact q1.2 i hi
  · rw [hk 34 _ (by omega)]; exact q2 i hi
theorem AC.setL {h h' : Hp} {σ : Sg} (a : AC h σ) (o : SOK σ) (l : Lie) (hk : ∀ c j, c ≠ hR h 0 6 + 1 → c ≠ hR h 0 6 + 2 → hI h' c j = hI h c j) (h6 : hR h' 0 6 = hR h 0 6) (h7 : hR h' 0 7 = hR h 0 7)
    (hH : ∀ i : Nat, i < 24 → 0 ≤ hI h' (hR h 0 6 + 1) i ∧ hI h' (hR h 0 6 + 1) i ≤ 99) (e1 : ∀ i : Nat, (i : Int) < gP (sG σ) → hI h' (hR h 0 6 + 1) i = l.1 i) (e2 : ∀ i : Nat, i < 4 → hI h' (hR h 0 6 + 2) i = l.2 i) (lk : LOK (gP (sG σ)) l) : AC h' (setG σ (gSet (sG σ) l)) := by
  have hg : hR h 0 6 = 20 ∨ hR h 0 6 = 25 := by rcases a.2.2.2.1.1 with q | q <;> omega
  have gb := o.2.2.2.1.b
  obtain ⟨p1, p2, p3, p4, p5, p6⟩ := a.core o (h' := h') (fun c j q => hk c j (by unfold rs2 at q; omega) (by unfold rs2 at q; omega)) h6 h7 (fun i hi => hk _ i (by have := a.2.2.2.1.b; omega) (by have := a.2.2.2.1.b; omega))
  obtain ⟨g1, g2, g3, g4, g5, g6, g7⟩ := a.2.2.2.2.1
  refine ⟨p1, p2, p3, p4, ⟨?_, ?_, ?_, ?_, ?_, ?_, fun hp s hs => ?_⟩, p5, a.actk (fun c j q => hk c j (by omega) (by omega)), a.img (fun c j q => hk c j (by omega) (by omega)), p6⟩
  · rw [h6, hk _ 4 (by omega) (by omega)]; exact g1
  · rw [h6, hk _ 5 (by omega) (by omega)]; exact g2
  · rw [h6, hk _ 6 (by omega) (by omega)]; exact g3
  · rw [h6]; exact hH
  · rw [h6]
    show _ = l.1
    funext i
    unfold htO
    rw [hk _ 4 (by omega) (by omega), g1]
    by_cases hi : 0 ≤ i ∧ i < gP (sG σ)
    · rw [if_pos hi, e1 _ (by omega), show ((i.toNat : Nat) : Int) = i by omega]
    · rw [if_neg hi, lk.2.1 i hi]
  · rw [h6]
    show _ = l.2
    funext i
    unfold shO
    by_cases hi : 0 ≤ i ∧ i < 4
    · rw [if_pos hi, e2 _ (by omega), show ((i.toNat : Nat) : Int) = i by omega]
    · rw [if_neg hi, lk.2.2.2 i hi]
  · rw [h6, hk _ s (by omega) (by omega), hk _ s (by omega) (by omega)]; exact g7 hp s hs
theorem AC.fgt {h : Hp} {σ : Sg} (a : AC h σ) (o : SOK σ) : AC (sI (sI h 33 1 0) 33 2 0) (setA σ []) := by
  have hk : ∀ c j, c ≠ 33 → hI (sI (sI h 33 1 0) 33 2 0) c j = hI h c j := fun c j q => by rw [hI_sI, if_neg (fun z => q z.1), hI_sI, if_neg (fun z => q z.1)]
  obtain ⟨p1, p2, p3, p4, p5, p6⟩ := a.core o (h' := sI (sI h 33 1 0) 33 2 0) (fun c j q => hk c j (by unfold rs2 at q; omega)) rfl rfl (fun i hi => hk _ i (by have := a.2.2.2.1.b; omega))
  exact ⟨p1, p2, p3, p4, a.gar (fun c j q1 q2 => hk c j (by omega)) rfl, p5, ⟨by rw [hI_sI, if_pos ⟨rfl, rfl⟩]; rfl, by rw [hI_sI, if_neg (by decide), hI_sI, if_pos ⟨rfl, rfl⟩]; decide, by rw [hI_sI, if_neg (by decide), hI_sI, if_pos ⟨rfl, rfl⟩]; decide, fun k l hl => by cases hl⟩, a.img (fun c j q => hk c j (by omega)), p6⟩
theorem AC.imE {h : Hp} {σ : Sg} (a : AC h σ) (o : SOK σ) : AC (sI (stH h (hR h 0 6) 35 0) 0 11 1) (setI σ (some (gLie (sG σ)))) := by
  have hg : hR h 0 6 = 20 ∨ hR h 0 6 = 25 := by rcases a.2.2.2.1.1 with q | q <;> omega
  have hl := a.lie o
  have gb := o.2.2.2.1.b
  have h24 := a.2.2.2.2.1.2.2.2.1
  have e35 : ∀ j, hI (sI (stH h (hR h 0 6) 35 0) 0 11 1) 35 j = hI (stH h (hR h 0 6) 35 0) 35 j := fun j => by rw [hI_sI, if_neg (by omega)]
  have hk : ∀ c j, c ≠ 35 → ¬ (c = 0 ∧ j = 11) → hI (sI (stH h (hR h 0 6) 35 0) 0 11 1) c j = hI h c j := fun c j q r => by rw [hI_sI, if_neg r, stH_I q]
  -- the cell 0 changes in one slot only
  obtain ⟨⟨t1, t2⟩, ⟨w1, w2⟩, d1, r1, g, ⟨k1, k2⟩, -, -, -⟩ := id a
  have hw4 := o.2.1.1
  refine ⟨⟨?_, fun i hi => ?_⟩, ⟨?_, fun w t ht => ?_⟩, ?_, r1.keep rfl rfl (fun i hi => hk _ i (by have := r1.b; omega) (by have := r1.b; omega)), a.gar (fun c j q1 q2 => hk c j (by omega) (by omega)) rfl, ⟨?_, fun i q hq => ?_⟩, a.actk (fun c j q => hk c j (by omega) (by omega)), ⟨?_, fun l hq => ?_⟩, ?_⟩
  · rw [hk 1 1 (by omega) (by omega)]; exact t1
  · rw [hk 2 i (by omega) (by omega)]; exact t2 i hi
  · rw [hk 0 4 (by omega) (by omega)]; exact w1
  · obtain ⟨k, c, q1, q2, q3⟩ := w2 w t ht
    have hwl : w < (sW σ).length := (List.getElem?_eq_some_iff.mp ht).1
    exact ⟨k, c, q1, by rw [hk _ 1 (by omega) (by omega)]; exact q2, fun i hi => by rw [hk _ i (by omega) (by omega)]; exact q3 i hi⟩
  · rw [hk 0 5 (by omega) (by omega)]; exact d1
  · rw [hk 30 2 (by omega) (by omega)]; exact k1
  · rw [hk 31 i (by omega) (by omega), hk 32 i (by omega) (by omega)]; exact k2 i q hq
  · rw [hI_sI, if_pos ⟨rfl, rfl⟩]; rfl
  · have hq : some (gLie (sG σ)) = some l := hq
    cases hq
    refine ⟨⟨fun i hi => ?_, fun i hi => ?_⟩, fun i hi => ?_⟩
    · have hi : (i : Int) < gP (sG σ) := hi
      rw [e35, stH_h (f := 0) (i := i) (by omega)]; exact hl.1 i hi
    · rw [e35, show 24 + i = 0 + 24 + i by omega, stH_s (by omega) hi]; exact hl.2 i hi
    · have := stH_h (h := h) (a := hR h 0 6) (b := 35) (f := 0) hi
      rw [Nat.zero_add] at this
      rw [e35, this]; exact h24 i hi
  · obtain ⟨b1, b2⟩ := a.2.2.2.2.2.2.2.2
    refine ⟨by rw [hk 36 5 (by omega) (by omega)]; exact b1, fun hb => ?_⟩
    rw [hk 36 5 (by omega) (by omega)] at hb
    rw [hk 36 4 (by omega) (by omega)]
    refine ⟨(b2 hb).1, fun s s1 s2 => ?_⟩
    rw [hk 37 _ (by omega) (by omega), hk 38 _ (by omega) (by omega), hk 39 _ (by omega) (by omega), hk 40 _ (by omega) (by omega)]
    exact (b2 hb).2 s s1 s2
/-- one ACT taken off, its lie not yet taken back -/
def tkH (h : Hp) : Hp := sI (sI h 33 1 (if hI h 33 1 = 0 then 39 else hI h 33 1 - 1)) 33 2 (hI h 33 2 - 1)
theorem tkH_I {h : Hp} {c j : Nat} (h1 : c ≠ 33) : hI (tkH h) c j = hI h c j := by unfold tkH; rw [hI_sI, if_neg (fun q => h1 q.1), hI_sI, if_neg (fun q => h1 q.1)]
theorem AC.tk {h : Hp} {σ : Sg} (a : AC h σ) (o : SOK σ) {l : Lie} {r : List Lie} (hl : sAc σ = l :: r) : AC (tkH h) (setA σ r) ∧ lieAt (tkH h) (gP (sG σ)) 34 (hI (tkH h) 33 1 * 28).toNat 34 ((hI (tkH h) 33 1 * 28).toNat + 24) l ∧ (∀ i : Nat, i < 24 → 0 ≤ hI (tkH h) 34 ((hI (tkH h) 33 1 * 28).toNat + i) ∧ hI (tkH h) 34 ((hI (tkH h) 33 1 * 28).toNat + i) ≤ 99) ∧ 0 ≤ hI (tkH h) 33 1 ∧ hI (tkH h) 33 1 < 40 := by
  obtain ⟨c1, c2, c3, c4⟩ := a.2.2.2.2.2.2.1
  obtain ⟨p1, p2, p3, p4, p5, p6⟩ := a.core o (h' := tkH h) (fun c j q => tkH_I (by unfold rs2 at q; omega)) rfl rfl (fun i hi => tkH_I (by have := a.2.2.2.1.b; omega))
  have e1 : hI (tkH h) 33 1 = if hI h 33 1 = 0 then 39 else hI h 33 1 - 1 := by unfold tkH; rw [hI_sI, if_neg (by decide), hI_sI, if_pos ⟨rfl, rfl⟩]
  have e2 : hI (tkH h) 33 2 = hI h 33 2 - 1 := by unfold tkH; rw [hI_sI, if_pos ⟨rfl, rfl⟩]
  have b0 : 0 ≤ hI (tkH h) 33 1 ∧ hI (tkH h) 33 1 < 40 := by rw [e1]; split <;> omega
  have f0 : (hI (tkH h) 33 1 * 28).toNat = 28 * ((hI h 33 1 - 1 - ((0 : Nat) : Int)) % 40).toNat := by rw [e1]; split <;> omega
  obtain ⟨q1, q2⟩ := c4 0 l (by rw [hl]; rfl)
  refine ⟨⟨p1, p2, p3, p4, a.gar (fun c j q1 q2 => tkH_I (by omega)) rfl, p5, ⟨?_, b0.1, b0.2, fun k l2 hk => ?_⟩, a.img (fun c j q => tkH_I (by omega)), p6⟩, ?_, ?_, b0⟩
  · rw [e2, c1, hl]; show _ = (r.length : Int); rw [List.length_cons]; omega
  · have hk : r[k]? = some l2 := hk
    obtain ⟨x1, x2⟩ := c4 (k + 1) l2 (by rw [hl, List.getElem?_cons_succ]; exact hk)
    have ei : 28 * ((hI (tkH h) 33 1 - 1 - (k : Int)) % 40).toNat = 28 * ((hI h 33 1 - 1 - ((k + 1 : Nat) : Int)) % 40).toNat := by rw [e1]; split <;> omega
    rw [ei]
    show lieAt _ (gP (sG σ)) 34 _ 34 _ l2 ∧ _
    refine ⟨⟨fun i hi => ?_, fun i hi => ?_⟩, fun i hi => ?_⟩
    · rw [tkH_I (by decide)]; exact x1.1 i hi
    · rw [tkH_I (by decide)]; exact x1.2 i hi
    · rw [tkH_I (by decide)]; exact x2 i hi
  · rw [f0]
    exact ⟨fun i hi => by rw [tkH_I (by decide)]; exact q1.1 i hi, fun i hi => by rw [tkH_I (by decide)]; exact q1.2 i hi⟩
  · rw [f0]
    exact fun i hi => by rw [tkH_I (by decide)]; exact q2 i hi
theorem SOK.gd {σ : Sg} (o : SOK σ) : GOK (sG σ) := o.2.2.2.1
theorem GOK.lok {G : Gdn} (g : GOK G) : LOK (gP G) (gLie G) := g.2.2.1
theorem GOK.set {G : Gdn} (g : GOK G) {l : Lie} (hl : LOK (gP G) l) : GOK (gSet G l) := ⟨g.1, g.2.1, hl, g.2.2.2⟩
theorem SOK.setL {σ : Sg} (o : SOK σ) {l : Lie} (hl : LOK (gP (sG σ)) l) : SOK (setG σ (gSet (sG σ) l)) := ⟨o.1, o.2.1, o.2.2.1, o.2.2.2.1.set hl, o.2.2.2.2.1, o.2.2.2.2.2.1, o.2.2.2.2.2.2.1, o.2.2.2.2.2.2.2⟩
theorem SOK.push {σ : Sg} (o : SOK σ) (hP : 0 < gP (sG σ)) : SOK (pushA σ) := by
  refine ⟨o.1, o.2.1, o.2.2.1, o.2.2.2.1, o.2.2.2.2.1, ⟨?_, fun l hl => ?_⟩, o.2.2.2.2.2.2.1, fun q => ?_⟩
  · show ((gLie (sG σ) :: sAc σ).take 40).length ≤ 40
    rw [List.length_take]; omega
  · rcases List.mem_cons.mp (List.mem_of_mem_take hl) with rfl | h
    · exact o.2.2.2.1.lok
    · exact o.2.2.2.2.2.1.2 l h
  · have q : gP (sG σ) = 0 := q
    omega
