/-! the heap behind the constructors: cells by number; ints, longs, references that change -/
abbrev Hp : Type := (Nat → Nat → Int) × (Nat → Nat → Int64) × (Nat → Nat → Nat)
def hI (h : Hp) (a j : Nat) : Int := h.1 a j
def hL (h : Hp) (a j : Nat) : Int64 := h.2.1 a j
def hR (h : Hp) (a j : Nat) : Nat := h.2.2 a j
def up2 {α : Type} (f : Nat → Nat → α) (a j : Nat) (v : α) : Nat → Nat → α := fun b k => if b = a ∧ k = j then v else f b k
def sI (h : Hp) (a j : Nat) (v : Int) : Hp := (up2 h.1 a j v, h.2.1, h.2.2)
def sL (h : Hp) (a j : Nat) (v : Int64) : Hp := (h.1, up2 h.2.1 a j v, h.2.2)
def sR (h : Hp) (a j : Nat) (v : Nat) : Hp := (h.1, h.2.1, up2 h.2.2 a j v)
def sA (h : Hp) (a : Nat) (f : Nat → Int) : Hp := (fun b => if b = a then f else h.1 b, h.2.1, h.2.2)
theorem hI_sI (h : Hp) (a j b k : Nat) (v : Int) : hI (sI h a j v) b k = if b = a ∧ k = j then v else hI h b k := rfl
theorem hL_sI (h : Hp) (a j b k : Nat) (v : Int) : hL (sI h a j v) b k = hL h b k := rfl
theorem hR_sI (h : Hp) (a j b k : Nat) (v : Int) : hR (sI h a j v) b k = hR h b k := rfl
theorem hI_sL (h : Hp) (a j b k : Nat) (v : Int64) : hI (sL h a j v) b k = hI h b k := rfl
theorem hL_sL (h : Hp) (a j b k : Nat) (v : Int64) : hL (sL h a j v) b k = if b = a ∧ k = j then v else hL h b k := rfl
theorem hR_sL (h : Hp) (a j b k : Nat) (v : Int64) : hR (sL h a j v) b k = hR h b k := rfl
theorem hI_sR (h : Hp) (a j b k : Nat) (v : Nat) : hI (sR h a j v) b k = hI h b k := rfl
theorem hL_sR (h : Hp) (a j b k : Nat) (v : Nat) : hL (sR h a j v) b k = hL h b k := rfl
theorem hR_sR (h : Hp) (a j b k : Nat) (v : Nat) : hR (sR h a j v) b k = if b = a ∧ k = j then v else hR h b k := rfl
theorem hI_sA (h : Hp) (a b k : Nat) (f : Nat → Int) : hI (sA h a f) b k = if b = a then f k else hI h b k := by unfold hI sA; dsimp only; split <;> rfl
theorem hL_sA (h : Hp) (a b k : Nat) (f : Nat → Int) : hL (sA h a f) b k = hL h b k := rfl
theorem hR_sA (h : Hp) (a b k : Nat) (f : Nat → Int) : hR (sA h a f) b k = hR h b k := rfl
/-- launch; class numbers and slots; array classes (int, byte, long, Wish); addresses by cell number; int arrays that are only read: number, length, values -/
abbrev Cx : Type := Launch × va_G × (Nat → ClassId) × (Nat → Nat) × List (Nat × Nat × (Nat → Int))
def adr (X : Cx) (k : Nat) : Nat := X.2.2.2.1 k
/-- .inl (sort, length): an array; .inr (class, kinds of its fields): 0 int, 1 long, 2 a reference that changes, k + 3: always cell k -/
abbrev Sh : Type := (Nat × Nat) ⊕ (Nat × List Nat)
def shp : List Sh := [
  .inr (10, [4, 6, 8, 10, 0, 0, 2, 2, 33, 36, 38, 0, 39, 45, 47, 48, 49]),
  .inr (7, [5, 0, 0]), .inl (0, 160),
  .inr (4, [7, 0]), .inl (0, 5),
  .inr (9, [9, 0]), .inl (0, 160),
  .inl (3, 4),
  .inr (8, [12, 0, 13, 0]), .inl (0, 160), .inl (0, 24),
  .inr (8, [15, 0, 16, 0]), .inl (0, 160), .inl (0, 24),
  .inr (8, [18, 0, 19, 0]), .inl (0, 160), .inl (0, 24),
  .inr (8, [21, 0, 22, 0]), .inl (0, 160), .inl (0, 24),
  .inr (3, [24, 25, 26, 27, 0, 0, 0]), .inl (0, 24), .inl (0, 4), .inl (0, 4), .inl (0, 4),
  .inr (3, [29, 30, 31, 32, 0, 0, 0]), .inl (0, 24), .inl (0, 4), .inl (0, 4), .inl (0, 4),
  .inr (5, [34, 35, 0, 0, 0]), .inl (0, 20), .inl (0, 20),
  .inr (0, [37, 0, 0]), .inl (0, 1120),
  .inl (0, 28),
  .inr (1, [40, 41, 42, 43, 0, 0, 44]), .inl (0, 721), .inl (0, 721), .inl (0, 721), .inl (0, 721), .inl (0, 4),
  .inr (6, [46, 0, 0]), .inl (0, 24),
  .inr (2, [1]),
  .inl (0, 24), .inl (0, 24),
  .inr (11, [0, 51, 52, 53, 54, 2, 0, 0, 0, 0, 0, 0, 0, 0, 0, 115, 116, 0, 55, 56, 57, 58, 59, 60, 0, 0, 0, 0, 0, 0, 0, 0, 61, 62, 63, 0, 1, 64, 65, 0, 66, 67, 0, 68, 69, 0, 0, 70, 0, 71, 72, 0]),
  .inl (1, 160), .inl (1, 640), .inl (0, 4), .inl (0, 128),
  .inl (0, 24), .inl (0, 24), .inl (0, 4), .inl (0, 5), .inl (0, 8), .inl (0, 8), .inl (0, 48), .inl (0, 48), .inl (0, 48), .inl (0, 4), .inl (0, 4), .inl (0, 20), .inl (0, 20), .inl (0, 24), .inl (0, 4), .inl (0, 1120), .inl (0, 24), .inl (0, 4),
  .inl (2, 1)]
theorem shp_length : shp.length = 71 := by decide
theorem shp_small : ∀ e ∈ shp, ∀ t n : Nat, e = .inl (t, n) → n < 2000 := by
  intro e he t n h
  subst h
  have h1 : shp.all (fun e => match e with | .inl (_, n) => decide (n < 2000) | .inr _ => true) = true := by decide
  have h2 := List.all_eq_true.mp h1 _ he
  simpa using h2
theorem shp_lt {a : Nat} {e : Sh} (h : shp[a]? = some e) : a < 71 := by rw [← shp_length]; exact (List.getElem?_eq_some_iff.mp h).1
theorem shp_len {a t n : Nat} (h : shp[a]? = some (.inl (t, n))) : n < 2000 := shp_small _ (List.mem_of_getElem? h) t n rfl
def lf (X : Cx) (h : Hp) (a j k : Nat) : Value := match k with
  | 0 => .int (iI (hI h a j))
  | 1 => .long (hL h a j)
  | 2 => .ref (adr X (hR h a j))
  | k + 3 => .ref (adr X k)
def lfs (X : Cx) (h : Hp) (a : Nat) : Nat → List Nat → List Value
  | _, [] => []
  | j, k :: ks => lf X h a j k :: lfs X h a (j + 1) ks
def cel (X : Cx) (h : Hp) (a : Nat) (e : Sh) : va_E := match e with
  | .inl (0, n) => .inl (X.2.2.1 0, n, .inl (fun i => iI (hI h a i)))
  | .inl (1, n) => .inl (X.2.2.1 1, n, .inl (fun i => iI (hI h a i)))
  | .inl (2, n) => .inl (X.2.2.1 2, n, .inr (.inl (fun i => hL h a i)))
  | .inl (_ + 3, n) => .inl (X.2.2.1 3, n, .inr (.inr (.inr (.inr (fun i => some (adr X (8 + 3 * i)))))))
  | .inr (ci, ks) => .inr (ci, lfs X h a 0 ks)
def wld (X : Cx) (h : Hp) : va_W := shp.mapIdx (fun a e => (adr X a, cel X h a e))
theorem wld_at {X : Cx} {h : Hp} {a : Nat} {e : Sh} (hs : shp[a]? = some e) : (wld X h)[a]? = some (adr X a, cel X h a e) := by
  unfold wld
  rw [List.getElem?_mapIdx, hs]
  rfl
theorem wld_inv {X : Cx} {h : Hp} {a : Nat} {q : Nat × va_E} (hq : (wld X h)[a]? = some q) : ∃ e, shp[a]? = some e ∧ q = (adr X a, cel X h a e) := by
  unfold wld at hq
  rw [List.getElem?_mapIdx] at hq
  cases hs : shp[a]? with
  | none => rw [hs] at hq; cases hq
  | some e => rw [hs] at hq; exact ⟨e, rfl, (Option.some.inj hq).symm⟩
theorem lfs_congr {X : Cx} {h h' : Hp} {a : Nat} (h1 : h'.1 a = h.1 a) (h2 : h'.2.1 a = h.2.1 a) (h3 : h'.2.2 a = h.2.2 a) : ∀ (ks : List Nat) (j : Nat), lfs X h' a j ks = lfs X h a j ks
  | [], _ => rfl
  | k :: ks, j => by
    unfold lfs
    rw [lfs_congr h1 h2 h3 ks (j + 1)]
    congr 1
    unfold lf hI hL hR
    rw [h1, h2, h3]
theorem cel_congr {X : Cx} {h h' : Hp} {a : Nat} (h1 : h'.1 a = h.1 a) (h2 : h'.2.1 a = h.2.1 a) (h3 : h'.2.2 a = h.2.2 a) (e : Sh) : cel X h' a e = cel X h a e := by
  unfold cel hI hL
  rw [h1, h2]
  split <;> first | rfl | rw [lfs_congr h1 h2 h3]
theorem wld_set {X : Cx} {h h' : Hp} {a : Nat} {e : Sh} {w : va_E} (hs : shp[a]? = some e) (hw : w = cel X h' a e) (ho : ∀ b, b ≠ a → h'.1 b = h.1 b ∧ h'.2.1 b = h.2.1 b ∧ h'.2.2 b = h.2.2 b) : (wld X h).set a (adr X a, w) = wld X h' := by
  subst hw
  apply List.ext_getElem?
  intro i
  by_cases hi : i = a
  · subst hi
    rw [wld_at hs, List.getElem?_set_self]
    unfold wld
    rw [List.length_mapIdx, shp_length]
    exact shp_lt hs
  · rw [List.getElem?_set_ne (Ne.symm hi)]
    unfold wld
    rw [List.getElem?_mapIdx, List.getElem?_mapIdx]
    obtain ⟨h1, h2, h3⟩ := ho i hi
    cases shp[i]? with
    | none => rfl
    | some e => show some (adr X i, cel X h i e) = some (adr X i, cel X h' i e); rw [cel_congr h1 h2 h3]
theorem lfs_get {X : Cx} {h : Hp} {a : Nat} : ∀ (ks : List Nat) (i j k : Nat), ks[j]? = some k → (lfs X h a i ks)[j]? = some (lf X h a (i + j) k)
  | [], i, j, k, hk => by simp at hk
  | x :: ks, i, 0, k, hk => by simp at hk; subst hk; rfl
  | x :: ks, i, j + 1, k, hk => by
    have := lfs_get ks (i + 1) j k (X := X) (h := h) (a := a) (by simpa using hk)
    rw [show i + 1 + j = i + (j + 1) by omega] at this
    exact this
theorem lfs_length {X : Cx} {h : Hp} {a : Nat} : ∀ (ks : List Nat) (i : Nat), (lfs X h a i ks).length = ks.length
  | [], _ => rfl
  | k :: ks, i => by unfold lfs; rw [List.length_cons, lfs_length ks, List.length_cons]
theorem lfs_set {X : Cx} {h h' : Hp} {a : Nat} {v : Value} : ∀ (ks : List Nat) (i j k : Nat), ks[j]? = some k → lf X h' a (i + j) k = v → (∀ t k', t ≠ i + j → lf X h' a t k' = lf X h a t k') → lfs X h' a i ks = (lfs X h a i ks).set j v
  | [], i, j, k, hk, _, _ => by simp at hk
  | x :: ks, i, 0, k, hk, hv, ho => by
    simp at hk
    subst hk
    unfold lfs
    rw [List.set_cons_zero]
    congr 1
    have e : ∀ (l : List Nat) (t : Nat), i < t → lfs X h' a t l = lfs X h a t l := by
      intro l
      induction l with
      | nil => intro t _; rfl
      | cons y l ih => intro t ht; unfold lfs; rw [ih (t + 1) (by omega), ho t y (by omega)]
    exact e ks (i + 1) (by omega)
  | x :: ks, i, j + 1, k, hk, hv, ho => by
    unfold lfs
    rw [List.set_cons_succ, ho i x (by omega)]
    congr 1
    exact lfs_set ks (i + 1) j k (by simpa using hk) (by rw [show i + 1 + j = i + (j + 1) by omega]; exact hv) (fun t k' ht => ho t k' (by omega))
def AW (X : Cx) (sz : Nat) : Nat → Prop := fun q => (∃ k, k < 71 ∧ q = adr X k) ∨ sz ≤ q
def inj (X : Cx) : Prop := ∀ i j, i < 71 → j < 71 → adr X i = adr X j → i = j
theorem wld_D {X : Cx} (hi : inj X) (sz : Nat) (h : Hp) : va_D (AW X sz) (wld X h) := by
  refine ⟨fun i j p q hp hq e => ?_, fun k q hq => ?_⟩
  · obtain ⟨e1, s1, r1⟩ := wld_inv hp
    obtain ⟨e2, s2, r2⟩ := wld_inv hq
    subst r1 r2
    exact hi i j (shp_lt s1) (shp_lt s2) e
  · obtain ⟨e1, s1, r1⟩ := wld_inv hq
    subst r1
    exact Or.inl ⟨k, shp_lt s1, rfl⟩
theorem AW_mono {X : Cx} {a b : Nat} (h : a ≤ b) (q : Nat) (hq : AW X b q) : AW X a q := by
  rcases hq with h1 | h1
  · exact Or.inl h1
  · exact Or.inr (Nat.le_trans h h1)
theorem ofNat_iI (n : Nat) : Int32.ofNat n = iI n := by unfold iI; rw [Int32.ofInt_eq_ofNat]
