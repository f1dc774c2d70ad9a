/-! the reference: what is kept, its garden -/
def SMx (c j : Nat) : Prop := (c = 47 ∧ ¬ (j = 6 ∨ j = 7 ∨ j = 24 ∨ j = 26 ∨ j = 27 ∨ j = 31 ∨ j = 42 ∨ j = 48 ∨ j = 51)) ∨ c = 51 ∨ c = 53 ∨ c = 55 ∨ (57 ≤ c ∧ c ≤ 62) ∨ c = 65 ∨ c = 66
def KM (h h' : Hp) : Prop := (∀ c j, ¬ SMx c j → hI h' c j = hI h c j) ∧ (∀ c, c ≠ 47 → h'.2.1 c = h.2.1 c) ∧ (∀ c j, ¬ (c = 47 ∧ j = 5) → hR h' c j = hR h c j) ∧ (hR h' 47 5 = hR h 47 5 ∨ hR h' 47 5 = 48 ∨ hR h' 47 5 = 49)
theorem KM.rf (h : Hp) : KM h h := ⟨fun _ _ _ => rfl, fun _ _ => rfl, fun _ _ _ => rfl, Or.inl rfl⟩
theorem KM.tr {h h1 h2 : Hp} (a : KM h h1) (b : KM h1 h2) : KM h h2 := ⟨fun c j q => (b.1 c j q).trans (a.1 c j q), fun c q => (b.2.1 c q).trans (a.2.1 c q), fun c j q => (b.2.2.1 c j q).trans (a.2.2.1 c j q), by
  rcases b.2.2.2 with q | q
  · rw [q]; exact a.2.2.2
  · exact Or.inr q⟩
theorem KM.sI {h : Hp} {a j : Nat} {v : Int} (hs : SMx a j) : KM h (sI h a j v) := ⟨fun c k q => by rw [hI_sI, if_neg (fun w => q (by rw [w.1, w.2]; exact hs))], fun _ _ => rfl, fun _ _ _ => rfl, Or.inl rfl⟩
theorem KM.sA {h : Hp} {a : Nat} {f : Nat → Int} (hs : ∀ j, SMx a j) : KM h (sA h a f) := ⟨fun c k q => by rw [hI_sA, if_neg (fun w => q (by rw [w]; exact hs k))], fun _ _ => rfl, fun _ _ _ => rfl, Or.inl rfl⟩
theorem KM.kp {h h' : Hp} {S : Nat → Nat → Prop} (k : Kp S h h') (hs : ∀ c j, S c j → SMx c j) : KM h h' := ⟨fun c j q => k.1 c j (fun w => q (hs c j w)), fun _ _ => by rw [k.2], fun _ _ _ => by unfold hR; rw [k.2], Or.inl (by unfold hR; rw [k.2])⟩
theorem KM.C {h h' : Hp} (k : KM h h') : sameC h h' := fun c hc => ⟨by funext j; exact k.1 c j (by unfold SMx; omega), k.2.1 c (by omega), by funext j; exact k.2.2.1 c j (by omega)⟩
theorem hM_eq {h h' : Hp} (h1 : hI h' 47 24 = hI h 47 24) (h2 : ∀ i, hI h' 52 i = hI h 52 i) : hM h' = hM h := by
  funext i
  unfold hM
  rw [h1, h2]
theorem sM_eq {h h' : Hp} (h2 : ∀ i, hI h' 54 i = hI h 54 i) : sM h' = sM h := by
  funext i
  unfold sM
  rw [h2]
theorem AM.km {h h' : Hp} {σ : Sg} (a : AM h σ) (k : KM h h') : AM h' σ := by
  have hk := k.1
  obtain ⟨⟨t1, t2⟩, ⟨w1, w2⟩, d1, r1, ⟨g1, g2, g3, g4, g5, g6⟩, ⟨k1, k2⟩, ⟨c1, c2⟩, ⟨i1, i2⟩⟩ := a
  have lie : ∀ (P : Int) (b x b2 y : Nat) (l : Lie), (b = 67 ∨ b = 68) → (b2 = 67 ∨ b2 = 69) → lieAt h P b x b2 y l → lieAt h' P b x b2 y l := by
    intro P b x b2 y l hb hb2 q
    exact ⟨fun i hi => by rw [hk b _ (by unfold SMx; omega)]; exact q.1 i hi, fun i hi => by rw [hk b2 _ (by unfold SMx; omega)]; exact q.2 i hi⟩
  refine ⟨⟨?_, fun i hi => ?_⟩, ⟨?_, fun w t ht => ?_⟩, ?_, ?_, ⟨?_, ?_, ?_, ?_, ?_, fun s hs => ?_⟩, ⟨?_, fun i q hq => ?_⟩, ⟨?_, fun k l hl => ?_⟩, ⟨?_, fun l hl => ?_⟩⟩
  · rw [hk 47 6 (by unfold SMx; omega)]; exact t1
  · rw [hk 48 i (by unfold SMx; omega)]; exact t2 i hi
  · rw [hk 47 7 (by unfold SMx; omega)]; exact w1
  · obtain ⟨q1, q2⟩ := w2 w t ht
    exact ⟨by rw [hk 50 _ (by unfold SMx; omega)]; exact q1, fun i hi => by rw [hk 49 _ (by unfold SMx; omega)]; exact q2 i hi⟩
  · rw [hk 47 31 (by unfold SMx; omega)]; exact d1
  · rcases k.2.2.2 with q | q
    · rw [q]; exact r1
    · exact q
  · rw [hk 47 24 (by unfold SMx; omega)]; exact g1
  · rw [hk 47 26 (by unfold SMx; omega)]; exact g2
  · rw [hk 47 27 (by unfold SMx; omega)]; exact g3
  · rw [hM_eq (hk 47 24 (by unfold SMx; omega)) (fun i => hk 52 i (by unfold SMx; omega))]; exact g4
  · rw [sM_eq (fun i => hk 54 i (by unfold SMx; omega))]; exact g5
  · rw [hk 56 _ (by unfold SMx; omega), hk 56 _ (by unfold SMx; omega)]; exact g6 s hs
  · rw [hk 47 42 (by unfold SMx; omega)]; exact k1
  · rw [hk 63 _ (by unfold SMx; omega), hk 64 _ (by unfold SMx; omega)]; exact k2 i q hq
  · rw [hk 47 48 (by unfold SMx; omega)]; exact c1
  · exact lie _ _ _ _ _ _ (Or.inl rfl) (Or.inl rfl) (c2 k l hl)
  · rw [hk 47 51 (by unfold SMx; omega)]; exact i1
  · exact lie _ _ _ _ _ _ (Or.inr rfl) (Or.inr rfl) (i2 l hl)
/-- the reference's garden but for its cards -/
def GM (h : Hp) : Gdn := ((hI h 47 24, hI h 47 26, 0), hM h, sM h, (fun _ => 0), fun _ => 0)
def gE (G : Gdn) : Gdn := ((gP G, gA G, 0), gH G, gS G, (fun _ => 0), fun _ => 0)
theorem AM.gm {h : Hp} {σ : Sg} (a : AM h σ) : GM h = gE (sG σ) := by
  obtain ⟨-, -, -, -, ⟨g1, g2, g3, g4, g5, g6⟩, -, -, -⟩ := a
  unfold GM gE
  rw [g1, g2, g4, g5]
theorem GM_km {h h' : Hp} (k : KM h h') : GM h' = GM h := by
  unfold GM
  rw [k.1 47 24 (by unfold SMx; omega), k.1 47 26 (by unfold SMx; omega), hM_eq (k.1 47 24 (by unfold SMx; omega)) (fun i => k.1 52 i (by unfold SMx; omega)), sM_eq (fun i => k.1 54 i (by unfold SMx; omega))]
/-- bounds of a garden with POINTS, but for its cards -/
def GB2 (G : Gdn) : Prop := (4 ≤ gP G ∧ gP G ≤ 24 ∧ gP G % 2 = 0) ∧ (1 ≤ gA G ∧ 2 * gA G < gP G) ∧ (∀ i, 0 ≤ gH G i ∧ gH G i ≤ 99) ∧ (∀ l, 0 ≤ gS G l ∧ gS G l ≤ 99)
theorem GOK.b2 {G : Gdn} (g : GOK G) (h : 0 < gP G) : GB2 (gE G) := by
  have := g.b
  exact ⟨by show 4 ≤ gP G ∧ gP G ≤ 24 ∧ gP G % 2 = 0; omega, by show 1 ≤ gA G ∧ 2 * gA G < gP G; omega, g.h, g.s⟩
theorem AM.b2 {h : Hp} {σ : Sg} (a : AM h σ) (o : SOK σ) (hp : 0 < gP (sG σ)) : GB2 (GM h) := by rw [a.gm]; exact o.2.2.2.1.b2 hp
theorem AM.sv {h : Hp} {σ : Sg} (a : AM h σ) {l : Int} (hl : 0 ≤ l ∧ l < 4) : hI h 54 l.toNat = gS (sG σ) l := by
  obtain ⟨-, -, -, -, ⟨g1, g2, g3, g4, g5, g6⟩, -, -, -⟩ := a
  rw [← g5]; unfold sM; rw [if_pos hl]
theorem AM.hv {h : Hp} {σ : Sg} (a : AM h σ) {p : Int} (hp : 0 ≤ p ∧ p < gP (sG σ)) : hI h 52 p.toNat = gH (sG σ) p := by
  obtain ⟨-, -, -, -, ⟨g1, g2, g3, g4, g5, g6⟩, -, -, -⟩ := a
  rw [← g4]; unfold hM; rw [if_pos (by omega)]
theorem rch_b2 {G : Gdn} (g : GB2 G) (p l : Int) : -99 ≤ rchF G p l ∧ rchF G p l ≤ 99 := by
  have h1 := g.2.2.1 (ptB (gP G) (gA G) p l)
  have h2 := g.2.2.2 l
  unfold rchF
  omega
theorem sln_b2 {G : Gdn} (g : GB2 G) (p l : Int) : -198 ≤ slnF G p l ∧ slnF G p l ≤ 198 := by
  have h1 := rch_b2 g p l
  have h2 := rch_b2 g p (l + 2)
  unfold slnF
  omega
theorem tlt_b2 {G : Gdn} (g : GB2 G) (p : Int) : 0 ≤ tltF G p ∧ tltF G p ≤ 198 := by
  have h1 := iabs_b (n := 198) (sln_b2 g p 0)
  have h2 := iabs_b (n := 198) (sln_b2 g p 1)
  unfold tltF
  omega
theorem gap_rch (G : Gdn) (p : Int) : gapF G p = rchF G p 0 + rchF G p 2 - rchF G p 1 - rchF G p 3 := by
  unfold gapF ggap lnF rchF
  have e0 : ptB (gP G) (gA G) p 0 = p := rfl
  have e1 : ptB (gP G) (gA G) p 1 = arnd (gP G) (p + gA G) := rfl
  have e2 : ptB (gP G) (gA G) p 2 = arnd (gP G) (p + gP G / 2) := rfl
  have e3 : ptB (gP G) (gA G) p 3 = arnd (gP G) (arnd (gP G) (p + gA G) + gP G / 2) := rfl
  rw [e0, e1, e2, e3]
  omega
theorem gap_b2 {G : Gdn} (g : GB2 G) (p : Int) : -396 ≤ gapF G p ∧ gapF G p ≤ 396 := by
  rw [gap_rch]
  have h0 := rch_b2 g p 0
  have h1 := rch_b2 g p 1
  have h2 := rch_b2 g p 2
  have h3 := rch_b2 g p 3
  omega
theorem arnd_mod {P p : Int} (h0 : 0 ≤ p) (h1 : p < 2 * P) : p % P = arnd P p := by
  unfold arnd
  split
  · rw [show p = p - P + P by omega, Int.add_emod_right, Int.emod_eq_of_lt (by omega) (by omega)]; omega
  · exact Int.emod_eq_of_lt h0 (by omega)
theorem ptB_mod {P A p l : Int} (hA : 0 ≤ A ∧ A < P) (hp : 0 ≤ p ∧ p < P) (hl : 0 ≤ l ∧ l < 4) : (p + (if l % 2 = 1 then A else 0) + (if 1 < l then P / 2 else 0)) % P = ptB P A p l := by
  rcases (show l = 0 ∨ l = 1 ∨ l = 2 ∨ l = 3 by omega) with rfl | rfl | rfl | rfl
  · show (p + 0 + 0) % P = p
    rw [Int.emod_eq_of_lt (by omega) (by omega)]; omega
  · show (p + A + 0) % P = arnd P (p + A)
    rw [Int.add_zero]; exact arnd_mod (by omega) (by omega)
  · show (p + 0 + P / 2) % P = arnd P (p + P / 2)
    rw [Int.add_zero]; exact arnd_mod (by omega) (by omega)
  · show (p + A + P / 2) % P = arnd P (arnd P (p + A) + P / 2)
    have h1 := arnd_mod (P := P) (p := p + A) (by omega) (by omega)
    have h2 := arnd_b (P := P) (p := p + A) (by omega)
    rw [← arnd_mod (by omega) (by omega), ← h1, Int.emod_add_emod]
theorem ptB_in {P A p l : Int} (hA : 0 ≤ A ∧ A < P) (hp : 0 ≤ p ∧ p < P) (hl : 0 ≤ l ∧ l < 4) : 0 ≤ ptB P A p l ∧ ptB P A p l < P := by
  rw [← ptB_mod hA hp hl]
  exact ⟨Int.emod_nonneg _ (by omega), Int.emod_lt_of_pos _ (by omega)⟩
theorem InR.L {a : Int} (h : InR a) : InL a := by unfold InR at h; unfold InL; omega
section Rules
variable {X : Cx} {M : Mt} {R : Room} {cn sn pc : Nat} {Qf : State → Array Value → List Frame → State → Prop} {lv : List (Nat × Value)} {st : List Value} {h : Hp}
theorem wp_i2lI {a : Int} (hd : decode M.2.1 pc = .ok (.i2l, 1)) (ha : InR a) (k : WG X M R cn sn Qf (pc + 1) lv (.long (lI a) :: st) h) : WG X M R cn sn Qf pc lv (.int (iI a) :: st) h := by
  refine wp_i2l hd ?_
  rw [i2l_I ha]
  exact k
theorem wp_l2iI {a : Int} (hd : decode M.2.1 pc = .ok (.l2i, 1)) (k : WG X M R cn sn Qf (pc + 1) lv (.int (iI a) :: st) h) : WG X M R cn sn Qf pc lv (.long (lI a) :: st) h := by
  refine wp_l2i hd ?_
  rw [l2i_I, iI_of]
  exact k
end Rules
