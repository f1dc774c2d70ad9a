/-! ACTS: what they do to a state, and to the class's cells -/
def setG (σ : Sg) (G : Gdn) : Sg := (σ.1, σ.2.1, σ.2.2.1, G, σ.2.2.2.2)
def setA (σ : Sg) (l : List Lie) : Sg := (σ.1, σ.2.1, σ.2.2.1, σ.2.2.2.1, σ.2.2.2.2.1, l, σ.2.2.2.2.2.2)
def setI (σ : Sg) (i : Option Lie) : Sg := (σ.1, σ.2.1, σ.2.2.1, σ.2.2.2.1, σ.2.2.2.2.1, σ.2.2.2.2.2.1, i)
def gLie (G : Gdn) : Lie := (gH G, gS G)
def gSet (G : Gdn) (l : Lie) : Gdn := (G.1, l.1, l.2, G.2.2.2)
def pushA (σ : Sg) : Sg := setA σ ((gLie (sG σ) :: sAc σ).take 40)
def rs2 (c j : Nat) : Prop := c = 0 ∨ (c = 1 ∧ j = 1) ∨ c = 2 ∨ (8 ≤ c ∧ c < 20 ∧ (c % 3 = 0 ∨ (c % 3 = 2 ∧ j = 1))) ∨ (30 ≤ c ∧ c ≤ 32) ∨ (36 ≤ c ∧ c ≤ 40)
/-- the clauses of AC that ACTS leave alone, in other cells -/
theorem AC.core {h h' : Hp} {σ : Sg} (a : AC h σ) (o : SOK σ) (hk : ∀ c j, rs2 c j → hI h' c j = hI h c j) (h6 : hR h' 0 6 = hR h 0 6) (h7 : hR h' 0 7 = hR h 0 7) (hdr : ∀ i : Nat, i < 24 → hI h' (hR h 0 7 + 1) i = hI h (hR h 0 7 + 1) i) :
    (hI h' 1 1 = (sT σ).length ∧ ∀ i : Nat, i < (sT σ).length → hI h' 2 i = (sT σ).getD i 0) ∧
    (hI h' 0 4 = (sW σ).length ∧ ∀ (w : Nat) (t : List Int), (sW σ)[w]? = some t → ∃ k c, wRd t = .inr (k, c) ∧ hI h' (8 + 3 * w) 1 = c.length ∧ ∀ i : Nat, i < c.length → hI h' (9 + 3 * w) i = c.getD i 0) ∧
    hI h' 0 5 = sD σ ∧ GR h' ∧
    (hI h' 30 2 = (sR_ σ).length ∧ ∀ (i : Nat) (q : Int × Int), (sR_ σ)[i]? = some q → hI h' 31 i = q.1 ∧ hI h' 32 i = q.2) ∧ CTB h' (gT (sG σ)) (gN (sG σ)) := by
  have hw4 := o.2.1.1
  obtain ⟨⟨t1, t2⟩, ⟨w1, w2⟩, d1, r1, -, ⟨k1, k2⟩, -, -, ⟨b1, b2⟩⟩ := a
  refine ⟨⟨?_, fun i hi => ?_⟩, ⟨?_, fun w t ht => ?_⟩, ?_, r1.keep h6 h7 hdr, ⟨?_, fun i q hq => ?_⟩, ⟨?_, fun hb => ?_⟩⟩
  · rw [hk 1 1 (by unfold rs2; omega)]; exact t1
  · rw [hk 2 i (by unfold rs2; omega)]; exact t2 i hi
  · rw [hk 0 4 (by unfold rs2; omega)]; exact w1
  · obtain ⟨k, c, q1, q2, q3⟩ := w2 w t ht
    have hwl : w < (sW σ).length := (List.getElem?_eq_some_iff.mp ht).1
    refine ⟨k, c, q1, by rw [hk _ 1 (by unfold rs2; omega)]; exact q2, fun i hi => by rw [hk _ i (by unfold rs2; omega)]; exact q3 i hi⟩
  · rw [hk 0 5 (by unfold rs2; omega)]; exact d1
  · rw [hk 30 2 (by unfold rs2; omega)]; exact k1
  · rw [hk 31 i (by unfold rs2; omega), hk 32 i (by unfold rs2; omega)]; exact k2 i q hq
  · rw [hk 36 5 (by unfold rs2; omega)]; exact b1
  · rw [hk 36 5 (by unfold rs2; omega)] at hb
    rw [hk 36 4 (by unfold rs2; omega)]
    refine ⟨(b2 hb).1, fun s s1 s2 => ?_⟩
    rw [hk 37 _ (by unfold rs2; omega), hk 38 _ (by unfold rs2; omega), hk 39 _ (by unfold rs2; omega), hk 40 _ (by unfold rs2; omega)]
    exact (b2 hb).2 s s1 s2
theorem cpy_I {h : Hp} {a s b t n c j : Nat} (hc : c ≠ b) : hI (cpy h a s b t n) c j = hI h c j := by unfold cpy; rw [hI_sA, if_neg hc]
theorem cpy_in {h : Hp} {a s b t n j : Nat} (h1 : t ≤ j) (h2 : j < t + n) : hI (cpy h a s b t n) b j = hI h a (s + (j - t)) := by unfold cpy; rw [hI_sA, if_pos rfl, if_pos ⟨h1, h2⟩]
theorem cpy_out {h : Hp} {a s b t n j : Nat} (h1 : j < t ∨ t + n ≤ j) : hI (cpy h a s b t n) b j = hI h b j := by unfold cpy; rw [hI_sA, if_pos rfl, if_neg (by omega)]
/-- a lie put into cell b from place f on; taken out of it -/
def stH (h : Hp) (a b f : Nat) : Hp := cpy (cpy h (a + 1) 0 b f 24) (a + 2) 0 b (f + 24) 4
def rsH (h : Hp) (a b f : Nat) : Hp := cpy (cpy h b f (a + 1) 0 24) b (f + 24) (a + 2) 0 4
theorem stH_I {h : Hp} {a b f c j : Nat} (hc : c ≠ b) : hI (stH h a b f) c j = hI h c j := by unfold stH; rw [cpy_I hc, cpy_I hc]
theorem stH_h {h : Hp} {a b f i : Nat} (hi : i < 24) : hI (stH h a b f) b (f + i) = hI h (a + 1) i := by
  unfold stH
  rw [cpy_out (by omega), cpy_in (by omega) (by omega)]
  congr 1
  omega
theorem stH_s {h : Hp} {a b f i : Nat} (hb : b ≠ a + 2) (hi : i < 4) : hI (stH h a b f) b (f + 24 + i) = hI h (a + 2) i := by
  unfold stH
  rw [cpy_in (by omega) (by omega), cpy_I (fun q => hb q.symm)]
  congr 1
  omega
theorem stH_o {h : Hp} {a b f j : Nat} (hj : j < f ∨ f + 28 ≤ j) : hI (stH h a b f) b j = hI h b j := by
  unfold stH
  rw [cpy_out (by omega), cpy_out (by omega)]
theorem rsH_I {h : Hp} {a b f c j : Nat} (h1 : c ≠ a + 1) (h2 : c ≠ a + 2) : hI (rsH h a b f) c j = hI h c j := by unfold rsH; rw [cpy_I h2, cpy_I h1]
theorem rsH_h {h : Hp} {a b f i : Nat} (hi : i < 24) : hI (rsH h a b f) (a + 1) i = hI h b (f + i) := by
  unfold rsH
  rw [cpy_I (by omega), cpy_in (by omega) (by omega)]
  congr 1
theorem rsH_s {h : Hp} {a b f i : Nat} (hb : b ≠ a + 1) (hi : i < 4) : hI (rsH h a b f) (a + 2) i = hI h b (f + 24 + i) := by
  unfold rsH
  rw [cpy_in (by omega) (by omega), cpy_I hb]
  congr 1
def kpH (h : Hp) (a : Nat) : Hp := sI (sI (stH h a 34 (hI h 33 1 * 28).toNat) 33 1 (if hI h 33 1 = 39 then 0 else hI h 33 1 + 1)) 33 2 (min 40 (hI h 33 2 + 1))
theorem kpH_I {h : Hp} {a c j : Nat} (h1 : c ≠ 33) (h2 : c ≠ 34) : hI (kpH h a) c j = hI h c j := by
  unfold kpH
  rw [hI_sI, if_neg (fun q => h1 q.1), hI_sI, if_neg (fun q => h1 q.1), stH_I h2]
theorem AC.gar {h h' : Hp} {σ : Sg} (a : AC h σ) (hk : ∀ c j, 20 ≤ c → c < 30 → hI h' c j = hI h c j) (h6 : hR h' 0 6 = hR h 0 6) :
    (hI h' (hR h' 0 6) 4 = gP (sG σ) ∧ hI h' (hR h' 0 6) 5 = gA (sG σ) ∧ hI h' (hR h' 0 6) 6 = gK (sG σ) ∧ (∀ i : Nat, i < 24 → 0 ≤ hI h' (hR h' 0 6 + 1) i ∧ hI h' (hR h' 0 6 + 1) i ≤ 99) ∧ htO h' (hR h' 0 6) = gH (sG σ) ∧ shO h' (hR h' 0 6) = gS (sG σ) ∧
    (0 < gP (sG σ) → ∀ s : Nat, s < 4 → hI h' (hR h' 0 6 + 3) s = gT (sG σ) s ∧ hI h' (hR h' 0 6 + 4) s = gN (sG σ) s)) := by
  have hg : hR h 0 6 = 20 ∨ hR h 0 6 = 25 := by rcases a.2.2.2.1.1 with q | q <;> omega
  obtain ⟨-, -, -, -, ⟨g1, g2, g3, g4, g5, g6, g7⟩, -⟩ := a
  rw [h6]
  refine ⟨?_, ?_, ?_, fun i hi => ?_, ?_, ?_, fun hp s hs => ?_⟩
  · rw [hk _ 4 (by omega) (by omega)]; exact g1
  · rw [hk _ 5 (by omega) (by omega)]; exact g2
  · rw [hk _ 6 (by omega) (by omega)]; exact g3
  · rw [hk _ i (by omega) (by omega)]; exact g4 i hi
  · rw [← g5]; funext i; unfold htO; rw [hk _ 4 (by omega) (by omega), hk _ i.toNat (by omega) (by omega)]
  · rw [← g6]; funext i; unfold shO; rw [hk _ i.toNat (by omega) (by omega)]
  · rw [hk _ s (by omega) (by omega), hk _ s (by omega) (by omega)]; exact g7 hp s hs
theorem AC.img {h h' : Hp} {σ : Sg} (a : AC h σ) (hk : ∀ c j, c = 0 ∨ c = 35 → hI h' c j = hI h c j) :
    (hI h' 0 11 = b2i ((sIm σ).isSome = true) ∧ ∀ l, sIm σ = some l → lieAt h' (gP (sG σ)) 35 0 35 24 l ∧ ∀ i : Nat, i < 24 → 0 ≤ hI h' 35 i ∧ hI h' 35 i ≤ 99) := by
  obtain ⟨-, -, -, -, -, -, -, ⟨i1, i2⟩, -⟩ := a
  refine ⟨by rw [hk 0 11 (by omega)]; exact i1, fun l hl => ⟨⟨fun i hi => ?_, fun i hi => ?_⟩, fun i hi => ?_⟩⟩
  · rw [hk 35 _ (by omega)]; exact (i2 l hl).1.1 i hi
  · rw [hk 35 _ (by omega)]; exact (i2 l hl).1.2 i hi
  · rw [hk 35 _ (by omega)]; exact (i2 l hl).2 i hi
theorem AC.lie {h : Hp} {σ : Sg} (a : AC h σ) (o : SOK σ) : (∀ i : Nat, (i : Int) < gP (sG σ) → hI h (hR h 0 6 + 1) i = gH (sG σ) i) ∧ ∀ i : Nat, i < 4 → hI h (hR h 0 6 + 2) i = gS (sG σ) i := by
  obtain ⟨-, -, -, -, ⟨g1, g2, g3, g4, g5, g6, g7⟩, -⟩ := a
  refine ⟨fun i hi => ?_, fun i hi => ?_⟩
  · rw [← g5]; unfold htO; rw [if_pos (by omega)]; rfl
  · rw [← g6]; unfold shO; rw [if_pos (by omega)]; rfl
theorem AC.kp {h : Hp} {σ : Sg} (a : AC h σ) (o : SOK σ) : AC (kpH h (hR h 0 6)) (pushA σ) := by
  have hg : hR h 0 6 = 20 ∨ hR h 0 6 = 25 := by rcases a.2.2.2.1.1 with q | q <;> omega
  have hl := a.lie o
  have gb := o.2.2.2.1.b
  have h24 := a.2.2.2.2.1.2.2.2.1
  obtain ⟨c1, c2, c3, c4⟩ := a.2.2.2.2.2.2.1
  have ho := o.2.2.2.2.2.1.1
  obtain ⟨p1, p2, p3, p4, p5, p6⟩ := a.core o (h' := kpH h (hR h 0 6)) (fun c j q => kpH_I (by unfold rs2 at q; omega) (by unfold rs2 at q; omega)) rfl rfl (fun i hi => kpH_I (by have := a.2.2.2.1.b; omega) (by have := a.2.2.2.1.b; omega))
  have e1 : hI (kpH h (hR h 0 6)) 33 1 = if hI h 33 1 = 39 then 0 else hI h 33 1 + 1 := by unfold kpH; rw [hI_sI, if_neg (by decide), hI_sI, if_pos ⟨rfl, rfl⟩]
  have e2 : hI (kpH h (hR h 0 6)) 33 2 = min 40 (hI h 33 2 + 1) := by unfold kpH; rw [hI_sI, if_pos ⟨rfl, rfl⟩]
  have e3 : ∀ j, hI (kpH h (hR h 0 6)) 34 j = hI (stH h (hR h 0 6) 34 (hI h 33 1 * 28).toNat) 34 j := fun j => by unfold kpH; rw [hI_sI, if_neg (by omega), hI_sI, if_neg (by omega)]
  refine ⟨p1, p2, p3, p4, a.gar (fun c j q1 q2 => kpH_I (by omega) (by omega)) rfl, p5, ⟨?_, ?_, ?_, fun k l hk => ?_⟩, a.img (fun c j q => kpH_I (by omega) (by omega)), p6⟩
  · rw [e2, c1]
    show _ = (((gLie (sG σ) :: sAc σ).take 40).length : Int)
    rw [List.length_take, List.length_cons]
    omega
  · rw [e1]; split <;> omega
  · rw [e1]; split <;> omega
  · have hk : ((gLie (sG σ) :: sAc σ).take 40)[k]? = some l := hk
    have hk40 : k < 40 := by
      have := (List.getElem?_eq_some_iff.mp hk).1
      rw [List.length_take] at this
      omega
    rw [List.getElem?_take_of_lt hk40] at hk
    show lieAt _ (gP (sG σ)) 34 _ 34 _ l ∧ _
    cases k with
    | zero =>
      rw [List.getElem?_cons_zero] at hk
      cases hk
      have ei : 28 * ((hI (kpH h (hR h 0 6)) 33 1 - 1 - ((0 : Nat) : Int)) % 40).toNat = (hI h 33 1 * 28).toNat := by rw [e1]; split <;> omega
      rw [ei]
      refine ⟨⟨fun i hi => ?_, fun i hi => ?_⟩, fun i hi => ?_⟩
      · rw [e3, stH_h (by omega)]; exact hl.1 i hi
      · rw [e3, stH_s (by omega) hi]; exact hl.2 i hi
      · rw [e3, stH_h hi]; exact h24 i hi
    | succ k =>
      rw [List.getElem?_cons_succ] at hk
      obtain ⟨q1, q2⟩ := c4 k l hk
      have ei : 28 * ((hI (kpH h (hR h 0 6)) 33 1 - 1 - ((k + 1 : Nat) : Int)) % 40).toNat = 28 * ((hI h 33 1 - 1 - (k : Int)) % 40).toNat := by rw [e1]; split <;> omega
      rw [ei]
      have en : ((hI h 33 1 - 1 - (k : Int)) % 40).toNat ≠ (hI h 33 1).toNat := by omega
      have el : ((hI h 33 1 - 1 - (k : Int)) % 40).toNat < 40 := by omega
      generalize ((hI h 33 1 - 1 - (k : Int)) % 40).toNat = z at q1 q2 en el
      refine ⟨⟨fun i hi => ?_, fun i hi => ?_⟩, fun i hi => ?_⟩
      · rw [e3, stH_o (by omega)]; exact q1.1 i hi
      · rw [e3, stH_o (by omega)]; exact q1.2 i hi
      · rw [e3, stH_o (by omega)]; exact q2 i hi
