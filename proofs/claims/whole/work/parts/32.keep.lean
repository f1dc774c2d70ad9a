/-! what is kept if only other slots change -/
def rs (c j : Nat) : Prop := c = 0 ∨ (c = 1 ∧ j = 1) ∨ c = 2 ∨ (8 ≤ c ∧ c < 20 ∧ (c % 3 = 0 ∨ (c % 3 = 2 ∧ j = 1))) ∨ (20 ≤ c ∧ c ≤ 40 ∧ (c = 30 → j = 2))
theorem AC.keep {h h' : Hp} {σ : Sg} (a : AC h σ) (o : SOK σ) (hk : ∀ c j, rs c j → hI h' c j = hI h c j) (h6 : hR h' 0 6 = hR h 0 6) (h7 : hR h' 0 7 = hR h 0 7) : AC h' σ := by
  have hg : hR h 0 6 = 20 ∨ hR h 0 6 = 25 := by rcases a.2.2.2.1.1 with q | q <;> omega
  have hw4 := o.2.1.1
  obtain ⟨⟨t1, t2⟩, ⟨w1, w2⟩, d1, r1, ⟨g1, g2, g3, g4, g5, g6, g7⟩, ⟨k1, k2⟩, ⟨c1, c2, c3, c4⟩, ⟨i1, i2⟩, ⟨b1, b2⟩⟩ := a
  have lie : ∀ (P : Int) (x y : Nat) (l : Lie) (b : Nat), (b = 34 ∨ b = 35) → lieAt h P b x b y l → lieAt h' P b x b y l := by
    intro P x y l b hb q
    exact ⟨fun i hi => by rw [hk b _ (by unfold rs; omega)]; exact q.1 i hi, fun i hi => by rw [hk b _ (by unfold rs; omega)]; exact q.2 i hi⟩
  have hb7 := r1.b
  have r2 : GR h' := r1.keep h6 h7 (fun i hi => hk _ i (by unfold rs; omega))
  unfold AC
  rw [h6]
  refine ⟨⟨?_, fun i hi => ?_⟩, ⟨?_, fun w t ht => ?_⟩, ?_, r2, ⟨?_, ?_, ?_, fun i hi => ?_, ?_, ?_, fun hp s hs => ?_⟩, ⟨?_, fun i q hq => ?_⟩, ⟨?_, ?_, ?_, fun k l hl => ?_⟩, ⟨?_, fun l hl => ?_⟩, ⟨?_, fun hb => ?_⟩⟩
  · rw [hk 1 1 (by unfold rs; omega)]; exact t1
  · rw [hk 2 i (by unfold rs; omega)]; exact t2 i hi
  · rw [hk 0 4 (by unfold rs; omega)]; exact w1
  · obtain ⟨k, c, q1, q2, q3⟩ := w2 w t ht
    have hwl : w < (sW σ).length := (List.getElem?_eq_some_iff.mp ht).1
    refine ⟨k, c, q1, by rw [hk _ 1 (by unfold rs; omega)]; exact q2, fun i hi => by rw [hk _ i (by unfold rs; omega)]; exact q3 i hi⟩
  · rw [hk 0 5 (by unfold rs; omega)]; exact d1
  · rw [hk _ 4 (by unfold rs; omega)]; exact g1
  · rw [hk _ 5 (by unfold rs; omega)]; exact g2
  · rw [hk _ 6 (by unfold rs; omega)]; exact g3
  · rw [hk _ i (by unfold rs; omega)]; exact g4 i hi
  · rw [← g5]; funext i; unfold htO; rw [hk _ 4 (by unfold rs; omega), hk _ i.toNat (by unfold rs; omega)]
  · rw [← g6]; funext i; unfold shO; rw [hk _ i.toNat (by unfold rs; omega)]
  · rw [hk _ s (by unfold rs; omega), hk _ s (by unfold rs; omega)]; exact g7 hp s hs
  · rw [hk 30 2 (by unfold rs; omega)]; exact k1
  · rw [hk 31 i (by unfold rs; omega), hk 32 i (by unfold rs; omega)]; exact k2 i q hq
  · rw [hk 33 2 (by unfold rs; omega)]; exact c1
  · rw [hk 33 1 (by unfold rs; omega)]; exact c2
  · rw [hk 33 1 (by unfold rs; omega)]; exact c3
  · rw [hk 33 1 (by unfold rs; omega)]
    refine ⟨lie _ _ _ _ 34 (Or.inl rfl) (c4 k l hl).1, fun i hi => ?_⟩
    rw [hk 34 _ (by unfold rs; omega)]
    exact (c4 k l hl).2 i hi
  · rw [hk 0 11 (by unfold rs; omega)]; exact i1
  · refine ⟨lie _ _ _ _ 35 (Or.inr rfl) (i2 l hl).1, fun i hi => ?_⟩
    rw [hk 35 _ (by unfold rs; omega)]
    exact (i2 l hl).2 i hi
  · rw [hk 36 5 (by unfold rs; omega)]; exact b1
  · rw [hk 36 5 (by unfold rs; omega)] at hb
    rw [hk 36 4 (by unfold rs; omega)]
    refine ⟨(b2 hb).1, fun s s1 s2 => ?_⟩
    rw [hk 37 _ (by unfold rs; omega), hk 38 _ (by unfold rs; omega), hk 39 _ (by unfold rs; omega), hk 40 _ (by unfold rs; omega)]
    exact (b2 hb).2 s s1 s2
/-- scratch cells -/
def scr (c : Nat) : Prop := (3 ≤ c ∧ c ≤ 6) ∨ (41 ≤ c ∧ c ≤ 46)
def OffS (h h' : Hp) : Prop := (∀ c, ¬ scr c → h'.1 c = h.1 c ∧ h'.2.1 c = h.2.1 c) ∧ h'.2.2 = h.2.2
theorem OffS.rf (h : Hp) : OffS h h := ⟨fun _ _ => ⟨rfl, rfl⟩, rfl⟩
theorem OffS.tr {h h1 h2 : Hp} (a : OffS h h1) (b : OffS h1 h2) : OffS h h2 := ⟨fun c hc => ⟨(b.1 c hc).1.trans (a.1 c hc).1, (b.1 c hc).2.trans (a.1 c hc).2⟩, b.2.trans a.2⟩
theorem OffS.I {h h' : Hp} (a : OffS h h') (c j : Nat) (hc : ¬ scr c) : hI h' c j = hI h c j := by unfold hI; rw [(a.1 c hc).1]
theorem OffS.M {h h' : Hp} (a : OffS h h') : sameM h h' := fun c hc => ⟨(a.1 c (by unfold scr; omega)).1, (a.1 c (by unfold scr; omega)).2, by rw [a.2]⟩
theorem AC.off {h h' : Hp} {σ : Sg} (a : AC h σ) (o : SOK σ) (f : OffS h h') : AC h' σ := a.keep o (fun c j hr => f.I c j (by unfold scr; unfold rs at hr; omega)) (by unfold hR; rw [f.2]) (by unfold hR; rw [f.2])
theorem OffS.sI {h : Hp} {a j : Nat} {v : Int} (hc : scr a) : OffS h (sI h a j v) := ⟨fun c hn => ⟨by funext k; show up2 h.1 a j v c k = _; unfold up2; rw [if_neg (fun q => hn (by rw [q.1]; exact hc))], rfl⟩, rfl⟩
theorem OffS.sL {h : Hp} {a j : Nat} {v : Int64} (hc : scr a) : OffS h (sL h a j v) := ⟨fun c hn => ⟨rfl, by funext k; show up2 h.2.1 a j v c k = _; unfold up2; rw [if_neg (fun q => hn (by rw [q.1]; exact hc))]⟩, rfl⟩
theorem OffS.sA {h : Hp} {a : Nat} {f : Nat → Int} (hc : scr a) : OffS h (sA h a f) := ⟨fun c hn => ⟨by show (if c = a then f else h.1 c) = _; rw [if_neg (fun q => hn (by rw [q]; exact hc))], rfl⟩, rfl⟩
theorem sI_sA (h : Hp) (a j : Nat) (f : Nat → Int) (v : Int) : sI (sA h a f) a j v = sA h a (fun i => if i = j then v else f i) := by
  unfold sI sA
  refine Prod.ext ?_ rfl
  funext b k
  show up2 _ a j v b k = _
  unfold up2
  by_cases hb : b = a
  · subst hb
    by_cases hk : k = j
    · rw [if_pos ⟨rfl, hk⟩]; simp [hk]
    · rw [if_neg (fun q => hk q.2)]; simp [hk]
  · rw [if_neg (fun q => hb q.1)]; simp [hb]
theorem sA_congr {h : Hp} {a : Nat} {f g : Nat → Int} (e : ∀ i, f i = g i) : sA h a f = sA h a g := by rw [show f = g from funext e]
theorem GB.keep {h h' : Hp} {a : Nat} (g : GB h a) (e : ∀ c j, 20 ≤ c → c < 30 → hI h' c j = hI h c j) : GB h' a := by
  obtain ⟨g0, g1, g2, g3, g4, g5, g6⟩ := g
  have ha : 20 ≤ a ∧ a ≤ 25 := by rcases g0 with q | q <;> omega
  refine ⟨g0, ?_, ?_, ?_, ?_, fun i hi => ?_, fun i hi => ?_⟩
  · rw [e a 4 (by omega) (by omega)]; exact g1
  · rw [e a 4 (by omega) (by omega)]; exact g2
  · rw [e a 5 (by omega) (by omega)]; exact g3
  · rw [e a 5 (by omega) (by omega)]; exact g4
  · rw [e (a + 1) i (by omega) (by omega)]; exact g5 i hi
  · rw [e (a + 2) i (by omega) (by omega)]; exact g6 i hi
theorem leanV_keep {h h' : Hp} {a : Nat} (g : isG a) (e : ∀ c j, 20 ≤ c → c < 30 → hI h' c j = hI h c j) : leanV h' a = leanV h a := by
  have ha : 20 ≤ a ∧ a ≤ 25 := by rcases g with q | q <;> omega
  unfold leanV shO
  simp only [e (a + 2) _ (by omega) (by omega)]
