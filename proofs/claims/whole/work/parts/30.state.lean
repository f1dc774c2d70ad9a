/-! what a state is: TAPE, texts of WISHES, the one that holds; GARDEN (POINTS, ANGLE, sorts; HEIGHTS, SHORT, THICK, MANY); ROCKED; ACTS, the latest first; IMAGE -/
abbrev Gdn : Type := (Int × Int × Int) × (Int → Int) × (Int → Int) × (Int → Int) × (Int → Int)
abbrev Lie : Type := (Int → Int) × (Int → Int)
abbrev Sg : Type := List Int × List (List Int) × Int × Gdn × List (Int × Int) × List Lie × Option Lie
def sT (σ : Sg) : List Int := σ.1
def sW (σ : Sg) : List (List Int) := σ.2.1
def sD (σ : Sg) : Int := σ.2.2.1
def sG (σ : Sg) : Gdn := σ.2.2.2.1
def sR_ (σ : Sg) : List (Int × Int) := σ.2.2.2.2.1
def sAc (σ : Sg) : List Lie := σ.2.2.2.2.2.1
def sIm (σ : Sg) : Option Lie := σ.2.2.2.2.2.2
def gP (G : Gdn) : Int := G.1.1
def gA (G : Gdn) : Int := G.1.2.1
def gK (G : Gdn) : Int := G.1.2.2
def gH (G : Gdn) : Int → Int := G.2.1
def gS (G : Gdn) : Int → Int := G.2.2.1
def gT (G : Gdn) : Int → Int := G.2.2.2.1
def gN (G : Gdn) : Int → Int := G.2.2.2.2
/-- a lie's numbers are in their bounds -/
def LOK (P : Int) (l : Lie) : Prop := (∀ i, 0 ≤ l.1 i ∧ l.1 i ≤ 99) ∧ (∀ i, ¬ (0 ≤ i ∧ i < P) → l.1 i = 0) ∧ (∀ i, 0 ≤ l.2 i ∧ l.2 i ≤ 99) ∧ ∀ i, ¬ (0 ≤ i ∧ i < 4) → l.2 i = 0
def GOK (G : Gdn) : Prop := (gP G = 0 ∧ gA G = 0 ∧ gK G = 0 ∨ 4 ≤ gP G ∧ gP G ≤ 24 ∧ gP G % 2 = 0 ∧ 1 ≤ gA G ∧ gA G ≤ 11 ∧ 2 * gA G < gP G) ∧ (0 ≤ gK G ∧ gK G ≤ 4) ∧ LOK (gP G) (gH G, gS G) ∧
  (0 < gP G → ∀ s, 0 ≤ s → s < 4 → 1 ≤ gT G s ∧ gT G s ≤ 20 ∧ 0 ≤ gN G s ∧ gN G s ≤ 9 ∧ (gK G ≤ s → gT G s = 1 ∧ gN G s = 0))
def TOK (t : List Int) : Prop := t.length ≤ 160 ∧ ∀ b ∈ t, 1 ≤ b ∧ b ≤ 255
def SOK (σ : Sg) : Prop := TOK (sT σ) ∧ ((sW σ).length ≤ 4 ∧ ∀ t ∈ sW σ, TOK t ∧ ∃ q, wRd t = .inr q) ∧ (-1 ≤ sD σ ∧ sD σ < (sW σ).length) ∧ GOK (sG σ) ∧
  ((sR_ σ).length ≤ 20 ∧ ∀ q ∈ sR_ σ, 0 ≤ q.1 ∧ q.1 < gP (sG σ) ∧ -1 ≤ q.2 ∧ q.2 ≤ 1) ∧ ((sAc σ).length ≤ 40 ∧ ∀ l ∈ sAc σ, LOK (gP (sG σ)) l) ∧ (∀ l, sIm σ = some l → LOK (gP (sG σ)) l) ∧
  (gP (sG σ) = 0 → sD σ = -1 ∧ sAc σ = [] ∧ sIm σ = none)
/-- cells that hold a lie: HEIGHTS from place x of cell a on, how SHORT from place y of cell b on -/
def lieAt (h : Hp) (P : Int) (a x b y : Nat) (l : Lie) : Prop := (∀ i : Nat, (i : Int) < P → hI h a (x + i) = l.1 i) ∧ ∀ i : Nat, i < 4 → hI h b (y + i) = l.2 i
/-! the table of CARDS 2 and 3: by the sum that they make the fewest, the first numbers with so few, how many ways -/
abbrev Tb : Type := Int → Int × Int × Int × Int
def ntF (T2 T3 a b : Int) (t : Tb) : Tb := fun s => if s = T2 * a + T3 * b then (if (t s).1 = -1 ∨ iabs a + iabs b < (t s).1 then (iabs a + iabs b, a, b, (t s).2.2.2 + 1) else ((t s).1, (t s).2.1, (t s).2.2.1, (t s).2.2.2 + 1)) else t s
def tbB (T2 T3 a : Int) : Nat → Int → Tb → Tb
  | 0, _, t => t
  | n + 1, b, t => tbB T2 T3 a n (b + 1) (ntF T2 T3 a b t)
def tbA (T2 T3 N3 : Int) : Nat → Int → Tb → Tb
  | 0, _, t => t
  | n + 1, a, t => tbA T2 T3 N3 n (a + 1) (tbB T2 T3 a (2 * N3 + 1).toNat (-N3) t)
def tab (T N : Int → Int) : Tb := tbA (T 2) (T 3) (N 3) (2 * N 2 + 1).toNat (-N 2) (fun _ => (-1, 0, 0, 0))
def far (T N : Int → Int) : Int := T 2 * N 2 + T 3 * N 3
/-- cells 37 .. 40 hold t as far as f -/
def tbAt (h : Hp) (f : Int) (t : Tb) : Prop := ∀ s : Int, -f ≤ s → s ≤ f → hI h 37 (s + f).toNat = (t s).1 ∧ hI h 40 (s + f).toNat = (t s).2.2.2 ∧ ((t s).1 ≠ -1 → hI h 38 (s + f).toNat = (t s).2.1 ∧ hI h 39 (s + f).toNat = (t s).2.2.1)
def CTB (h : Hp) (T N : Int → Int) : Prop := (hI h 36 5 = 0 ∨ hI h 36 5 = 1) ∧ (hI h 36 5 = 1 → hI h 36 4 = far T N ∧ tbAt h (far T N) (tab T N))
/-- the garden and the draft; the draft's HEIGHTS are in their bounds -/
def GR (h : Hp) : Prop := ((hR h 0 6 = 20 ∧ hR h 0 7 = 25) ∨ (hR h 0 6 = 25 ∧ hR h 0 7 = 20)) ∧ ∀ i : Nat, i < 24 → 0 ≤ hI h (hR h 0 7 + 1) i ∧ hI h (hR h 0 7 + 1) i ≤ 99
theorem GR.keep {h h' : Hp} (r : GR h) (h6 : hR h' 0 6 = hR h 0 6) (h7 : hR h' 0 7 = hR h 0 7) (hk : ∀ i : Nat, i < 24 → hI h' (hR h 0 7 + 1) i = hI h (hR h 0 7 + 1) i) : GR h' := by
  unfold GR
  rw [h6, h7]
  exact ⟨r.1, fun i hi => by rw [hk i hi]; exact r.2 i hi⟩
theorem GR.b {h : Hp} (r : GR h) : (hR h 0 6 = 20 ∨ hR h 0 6 = 25) ∧ (hR h 0 7 = 20 ∨ hR h 0 7 = 25) ∧ hR h 0 6 ≠ hR h 0 7 := by rcases r.1 with q | q <;> omega
/-- the class's cells hold σ -/
def AC (h : Hp) (σ : Sg) : Prop :=
  (hI h 1 1 = (sT σ).length ∧ ∀ i : Nat, i < (sT σ).length → hI h 2 i = (sT σ).getD i 0) ∧
  (hI h 0 4 = (sW σ).length ∧ ∀ (w : Nat) (t : List Int), (sW σ)[w]? = some t → ∃ k c, wRd t = .inr (k, c) ∧ hI h (8 + 3 * w) 1 = c.length ∧ ∀ i : Nat, i < c.length → hI h (9 + 3 * w) i = c.getD i 0) ∧
  hI h 0 5 = sD σ ∧
  GR h ∧
  (hI h (hR h 0 6) 4 = gP (sG σ) ∧ hI h (hR h 0 6) 5 = gA (sG σ) ∧ hI h (hR h 0 6) 6 = gK (sG σ) ∧ (∀ i : Nat, i < 24 → 0 ≤ hI h (hR h 0 6 + 1) i ∧ hI h (hR h 0 6 + 1) i ≤ 99) ∧ htO h (hR h 0 6) = gH (sG σ) ∧ shO h (hR h 0 6) = gS (sG σ) ∧
    (0 < gP (sG σ) → ∀ s : Nat, s < 4 → hI h (hR h 0 6 + 3) s = gT (sG σ) s ∧ hI h (hR h 0 6 + 4) s = gN (sG σ) s)) ∧
  (hI h 30 2 = (sR_ σ).length ∧ ∀ (i : Nat) (q : Int × Int), (sR_ σ)[i]? = some q → hI h 31 i = q.1 ∧ hI h 32 i = q.2) ∧
  (hI h 33 2 = (sAc σ).length ∧ 0 ≤ hI h 33 1 ∧ hI h 33 1 < 40 ∧ ∀ (k : Nat) (l : Lie), (sAc σ)[k]? = some l → lieAt h (gP (sG σ)) 34 (28 * ((hI h 33 1 - 1 - k) % 40).toNat) 34 (28 * ((hI h 33 1 - 1 - k) % 40).toNat + 24) l ∧ ∀ i : Nat, i < 24 → 0 ≤ hI h 34 (28 * ((hI h 33 1 - 1 - k) % 40).toNat + i) ∧ hI h 34 (28 * ((hI h 33 1 - 1 - k) % 40).toNat + i) ≤ 99) ∧
  (hI h 0 11 = b2i ((sIm σ).isSome = true) ∧ ∀ l, sIm σ = some l → lieAt h (gP (sG σ)) 35 0 35 24 l ∧ ∀ i : Nat, i < 24 → 0 ≤ hI h 35 i ∧ hI h 35 i ≤ 99) ∧
  CTB h (gT (sG σ)) (gN (sG σ))
/-- bytes as the reference holds them -/
def sbt (x : Int) : Int := if x < 128 then x else x - 256
def hM (h : Hp) (i : Int) : Int := if 0 ≤ i ∧ i < hI h 47 24 then hI h 52 i.toNat else 0
def sM (h : Hp) (l : Int) : Int := if 0 ≤ l ∧ l < 4 then hI h 54 l.toNat else 0
/-- the reference's cells hold σ -/
def AM (h : Hp) (σ : Sg) : Prop :=
  (hI h 47 6 = (sT σ).length ∧ ∀ i : Nat, i < (sT σ).length → hI h 48 i = sbt ((sT σ).getD i 0)) ∧
  (hI h 47 7 = (sW σ).length ∧ ∀ (w : Nat) (t : List Int), (sW σ)[w]? = some t → hI h 50 w = t.length ∧ ∀ i : Nat, i < t.length → hI h 49 (160 * w + i) = sbt (t.getD i 0)) ∧
  hI h 47 31 = sD σ ∧
  (hR h 47 5 = 48 ∨ hR h 47 5 = 49) ∧
  (hI h 47 24 = gP (sG σ) ∧ hI h 47 26 = gA (sG σ) ∧ hI h 47 27 = gK (sG σ) ∧ hM h = gH (sG σ) ∧ sM h = gS (sG σ) ∧ ∀ s : Nat, (s : Int) < gK (sG σ) → hI h 56 (2 * s) = gT (sG σ) s ∧ hI h 56 (2 * s + 1) = gN (sG σ) s) ∧
  (hI h 47 42 = (sR_ σ).length ∧ ∀ (i : Nat) (q : Int × Int), (sR_ σ)[i]? = some q → hI h 63 i = q.1 ∧ hI h 64 i = q.2) ∧
  (hI h 47 48 = (sAc σ).length ∧ ∀ (k : Nat) (l : Lie), (sAc σ)[k]? = some l → lieAt h (gP (sG σ)) 67 (28 * ((sAc σ).length - 1 - k)) 67 (28 * ((sAc σ).length - 1 - k) + 24) l) ∧
  (hI h 47 51 = b2i ((sIm σ).isSome = true) ∧ ∀ l, sIm σ = some l → lieAt h (gP (sG σ)) 68 0 69 0 l)
def sameM (h h' : Hp) : Prop := ∀ a, 47 ≤ a → h'.1 a = h.1 a ∧ h'.2.1 a = h.2.1 a ∧ h'.2.2 a = h.2.2 a
def sameC (h h' : Hp) : Prop := ∀ a, a < 47 → h'.1 a = h.1 a ∧ h'.2.1 a = h.2.1 a ∧ h'.2.2 a = h.2.2 a
theorem sameM_rf (h : Hp) : sameM h h := fun _ _ => ⟨rfl, rfl, rfl⟩
theorem sameC_rf (h : Hp) : sameC h h := fun _ _ => ⟨rfl, rfl, rfl⟩
theorem sameM_tr {h h1 h2 : Hp} (a : sameM h h1) (b : sameM h1 h2) : sameM h h2 := fun k hk => ⟨(b k hk).1.trans (a k hk).1, (b k hk).2.1.trans (a k hk).2.1, (b k hk).2.2.trans (a k hk).2.2⟩
theorem sameC_tr {h h1 h2 : Hp} (a : sameC h h1) (b : sameC h1 h2) : sameC h h2 := fun k hk => ⟨(b k hk).1.trans (a k hk).1, (b k hk).2.1.trans (a k hk).2.1, (b k hk).2.2.trans (a k hk).2.2⟩
/-! what is asked of a GARDEN -/
def rchF (G : Gdn) (p l : Int) : Int := gH G (ptB (gP G) (gA G) p l) - gS G l
def slnF (G : Gdn) (p l : Int) : Int := rchF G p l - rchF G p (l + 2)
def tltF (G : Gdn) (p : Int) : Int := max (iabs (slnF G p 0)) (iabs (slnF G p 1))
def lnF (G : Gdn) : Int := gS G 0 + gS G 2 - gS G 1 - gS G 3
def gapF (G : Gdn) (p : Int) : Int := ggap (gH G) (gP G) (gA G) p - lnF G
theorem GOK.b {G : Gdn} (g : GOK G) : 0 ≤ gP G ∧ gP G ≤ 24 ∧ gP G % 2 = 0 ∧ 0 ≤ gA G ∧ gA G ≤ 11 ∧ (0 < gP G → 4 ≤ gP G ∧ 1 ≤ gA G ∧ 2 * gA G < gP G) := by
  rcases g.1 with h | h <;> omega
theorem GOK.h {G : Gdn} (g : GOK G) (i : Int) : 0 ≤ gH G i ∧ gH G i ≤ 99 := g.2.2.1.1 i
theorem GOK.s {G : Gdn} (g : GOK G) (i : Int) : 0 ≤ gS G i ∧ gS G i ≤ 99 := g.2.2.1.2.2.1 i
theorem rchF_b {G : Gdn} (g : GOK G) (p l : Int) : -99 ≤ rchF G p l ∧ rchF G p l ≤ 99 := by
  have h1 := g.h (ptB (gP G) (gA G) p l)
  have h2 := g.s l
  unfold rchF
  omega
theorem slnF_b {G : Gdn} (g : GOK G) (p l : Int) : -198 ≤ slnF G p l ∧ slnF G p l ≤ 198 := by
  have h1 := rchF_b g p l
  have h2 := rchF_b g p (l + 2)
  unfold slnF
  omega
theorem tltF_b {G : Gdn} (g : GOK G) (p : Int) : 0 ≤ tltF G p ∧ tltF G p ≤ 198 := by
  have h1 := iabs_b (n := 198) (slnF_b g p 0)
  have h2 := iabs_b (n := 198) (slnF_b g p 1)
  unfold tltF
  omega
theorem lnF_b {G : Gdn} (g : GOK G) : -198 ≤ lnF G ∧ lnF G ≤ 198 := by
  have h0 := g.s 0
  have h1 := g.s 1
  have h2 := g.s 2
  have h3 := g.s 3
  unfold lnF
  omega
theorem ggap_b {H : Int → Int} (hb : ∀ i, 0 ≤ H i ∧ H i ≤ 99) (P A p : Int) : -198 ≤ ggap H P A p ∧ ggap H P A p ≤ 198 := by
  unfold ggap
  have h0 := hb p
  have h1 := hb (arnd P (p + P / 2))
  have h2 := hb (arnd P (p + A))
  have h3 := hb (arnd P (arnd P (p + A) + P / 2))
  omega
theorem gapF_b {G : Gdn} (g : GOK G) (p : Int) : -396 ≤ gapF G p ∧ gapF G p ≤ 396 := by
  have h1 := ggap_b g.h (gP G) (gA G) p
  have h2 := lnF_b g
  unfold gapF
  omega
/-- the class's garden in these words -/
theorem AC.gb {h : Hp} {σ : Sg} (a : AC h σ) (o : SOK σ) : GB h (hR h 0 6) := by
  obtain ⟨-, -, -, a4, ⟨a5, a6, a7, a8, a9, a10, -⟩, -⟩ := a
  have g := o.2.2.2.1
  have gb := g.b
  refine ⟨?_, by omega, by omega, by omega, by omega, a8, fun i hi => ?_⟩
  · rcases a4.1 with q | q
    · exact Or.inl q.1
    · exact Or.inr q.1
  · have e : shO h (hR h 0 6) (i : Int) = hI h (hR h 0 6 + 2) i := by unfold shO; rw [if_pos (by omega)]; rfl
    rw [← e, a10]
    exact g.s i
theorem AC.rcE {h : Hp} {σ : Sg} (a : AC h σ) (p l : Int) : rch h (hR h 0 6) p l = rchF (sG σ) p l := by
  obtain ⟨-, -, -, a4, ⟨a5, a6, a7, a8, a9, a10, -⟩, -⟩ := a
  unfold rch rchF
  rw [a5, a6, a9, a10]
theorem AC.tilt {h : Hp} {σ : Sg} (a : AC h σ) (p : Int) : tiltV h (hR h 0 6) p = tltF (sG σ) p := by
  unfold tiltV tltF slant slnF
  rw [a.rcE, a.rcE, a.rcE, a.rcE]
theorem AC.lean {h : Hp} {σ : Sg} (a : AC h σ) : leanV h (hR h 0 6) = lnF (sG σ) := by
  obtain ⟨-, -, -, a4, ⟨a5, a6, a7, a8, a9, a10, -⟩, -⟩ := a
  unfold leanV lnF
  rw [a10]
theorem ggap_eq {H K : Int → Int} {P A p : Int} (hP : P % 2 = 0) (hA : 0 ≤ A ∧ A < P) (hp : 0 ≤ p ∧ p < P) (e : ∀ i, 0 ≤ i → i < P → H i = K i) : ggap H P A p = ggap K P A p := by
  have b2 := arnd_b (P := P) (p := p + P / 2) (by omega)
  have b1 := arnd_b (P := P) (p := p + A) (by omega)
  have b3 := arnd_b (P := P) (p := arnd P (p + A) + P / 2) (by omega)
  unfold ggap
  rw [e p hp.1 hp.2, e _ b1.1 b1.2, e _ b2.1 b2.2, e _ b3.1 b3.2]
theorem AC.ggp {h : Hp} {σ : Sg} (a : AC h σ) (o : SOK σ) {A p : Int} (hA : 0 ≤ A ∧ A < gP (sG σ)) (hp : 0 ≤ p ∧ p < gP (sG σ)) : ggap (fun i => hI h (hR h 0 6 + 1) i.toNat) (hI h (hR h 0 6) 4) A p = ggap (gH (sG σ)) (gP (sG σ)) A p := by
  obtain ⟨-, -, -, a4, ⟨a5, a6, a7, a8, a9, a10, -⟩, -⟩ := a
  have gb := o.2.2.2.1.b
  rw [a5]
  refine ggap_eq gb.2.2.1 hA hp (fun i h0 h1 => ?_)
  rw [← a9]
  unfold htO
  rw [if_pos (by omega)]
theorem AC.gap {h : Hp} {σ : Sg} (a : AC h σ) (o : SOK σ) {p : Int} (hp : 0 ≤ p ∧ p < gP (sG σ)) : gapV h (hR h 0 6) p = gapF (sG σ) p := by
  have gb := o.2.2.2.1.b
  have e := a.ggp o (A := gA (sG σ)) (p := p) (by omega) hp
  unfold gapV gapF
  rw [a.lean]
  have e6 := a.2.2.2.2.1.2.1
  rw [e6, e]
