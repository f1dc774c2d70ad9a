/-! the GARDEN's text: bounds -/
def psI {α : Type} (V : Nat ⊕ (Nat × α)) : Nat := match V with
  | .inl e => e
  | .inr (k, _) => k
def nmV (r : Nat ⊕ (Nat × Int)) : Int := match r with
  | .inl _ => -1
  | .inr (_, v) => v
theorem nmQ_f {h h' : Hp} {r : Nat ⊕ (Nat × Int)} {rv : Option Value} (q : nmQ h r rv h') : rv = some (.int (iI (nmV r))) ∧ h' = sI h 1 2 (psI r) := by
  cases r with
  | inl e => exact q
  | inr z => exact q
theorem nmV_b {t : List Int} (k : TOK t) {m i : Nat} (hm : m ≤ 4) (hi : i ≤ t.length) : -1 ≤ nmV (nm t m i) ∧ nmV (nm t m i) < 10 ^ m := by
  have h1 : (1 : Int) ≤ 10 ^ m := by exact_mod_cast Nat.one_le_pow m 10 (by decide)
  cases hn : nm t m i with
  | inl e => exact ⟨by show (-1 : Int) ≤ -1; omega, by show (-1 : Int) < _; omega⟩
  | inr z =>
    obtain ⟨e, w⟩ := z
    have := nmr k hm hi hn
    exact ⟨by show (-1 : Int) ≤ w; omega, this.2.2.2⟩
theorem nmV_ok {t : List Int} {m i : Nat} (h : ¬ nmV (nm t m i) = -1) : ∃ e w, nm t m i = .inr (e, w) := by
  cases hn : nm t m i with
  | inl e => rw [hn] at h; exact absurd rfl h
  | inr z => exact ⟨z.1, z.2, rfl⟩
theorem nmV_no {t : List Int} (k : TOK t) {m i : Nat} (hm : m ≤ 4) (hi : i ≤ t.length) (h : nmV (nm t m i) = -1) : ∃ e, nm t m i = .inl e := by
  cases hn : nm t m i with
  | inl e => exact ⟨e, rfl⟩
  | inr z =>
    obtain ⟨e, w⟩ := z
    have := nmr k hm hi hn
    rw [hn] at h
    have h : w = -1 := h
    omega
theorem ixF_b (b : Int) : ∀ (L : List Int) (j : Int), ixF b L j = -1 ∨ (j ≤ ixF b L j ∧ ixF b L j < j + L.length)
  | [], j => Or.inl rfl
  | x :: L, j => by
    unfold ixF
    split
    · right; rw [List.length_cons]; omega
    · rcases ixF_b b L (j + 1) with h | h
      · exact Or.inl h
      · right; rw [List.length_cons]; omega
theorem ixF_no {b : Int} : ∀ {L : List Int} {j : Int}, (∀ x ∈ L, x ≠ b) → ixF b L j = -1
  | [], _, _ => rfl
  | x :: L, j, h => by
    unfold ixF
    rw [if_neg (h x List.mem_cons_self)]
    exact ixF_no (fun y hy => h y (List.mem_cons_of_mem _ hy))
/-- bounds of ITEMS -/
def inB (lo hi : Int → Int) (n : Int) (v : Int → Int) : Prop := ∀ j, 0 ≤ j → j < n → lo j ≤ v j ∧ v j ≤ hi j
def itP (t : List Int) (i : Nat) (lo hi : Int → Int) (n : Int) (r : Nat ⊕ (Nat × (Int → Int))) : Prop := match r with
  | .inl e => e ≤ t.length
  | .inr (e, w) => i ≤ e ∧ e ≤ t.length ∧ inB lo hi n w
theorem itF_b {t : List Int} (k : TOK t) {L : List Int} (hL : ∀ x ∈ L, x ≠ -1) (lo up : Int → Int) : ∀ (n : Nat) (d : Int) (v : Int → Int) (i : Nat), i ≤ t.length → inB lo up L.length v → itP t i lo up L.length (itF t L lo up n d v i)
  | 0, d, v, i, hi, hv => ⟨Nat.le_refl _, hi, hv⟩
  | n + 1, d, v, i, hi, hv => by
    have hs := sk_b t hi
    have hx := ixF_b (lk t i) L 0
    unfold itF
    by_cases h1 : ixF (lk t i) L 0 = -1
    · rw [if_pos h1]; exact ⟨hs.1, hs.2, hv⟩
    rw [if_neg h1]
    by_cases h2 : iAnd (iShr d (ixF (lk t i) L 0)) 1 ≠ 0
    · rw [if_pos h2]; exact hs.2
    rw [if_neg h2]
    have hlk : lk t i ≠ -1 := fun q => h1 (ixF_no (fun x hx => by rw [q]; exact hL x hx))
    have hin := lk_in k hi hlk
    have hs2 := sk_b t (i := sk t i + 1) (by omega)
    cases hn : nm t 2 (sk t (sk t i + 1)) with
    | inl e => exact (nml k (by decide) hs2.2 hn).2
    | inr z =>
      obtain ⟨e, x⟩ := z
      have hr := nmr k (by decide) hs2.2 hn
      dsimp only
      by_cases hb : x < lo (ixF (lk t i) L 0) ∨ up (ixF (lk t i) L 0) < x
      · rw [if_pos hb]; show e - 1 ≤ t.length; omega
      · rw [if_neg hb]
        have := itF_b k hL lo up n (iOr d (iShl 1 (ixF (lk t i) L 0))) (upv v (ixF (lk t i) L 0) x) e (by omega) (fun j j0 j1 => by
          unfold upv
          by_cases hj : j = ixF (lk t i) L 0
          · rw [if_pos hj, hj]; omega
          · rw [if_neg hj]; exact hv j j0 j1)
        revert this
        cases itF t L lo up n (iOr d (iShl 1 (ixF (lk t i) L 0))) (upv v (ixF (lk t i) L 0) x) e with
        | inl e2 => exact id
        | inr z2 => exact fun q => ⟨by have := q.1; omega, q.2⟩
def grP (t : List Int) (i : Nat) (r : Nat ⊕ (Nat × List Int)) : Prop := match r with
  | .inl e => e ≤ t.length
  | .inr (e, l) => i < e ∧ e ≤ t.length ∧ (4 ≤ l.length ∧ l.length ≤ 24 ∧ l.length % 2 = 0) ∧ ∀ x ∈ l, 0 ≤ x ∧ x ≤ 99
theorem grF_b {t : List Int} (k : TOK t) : ∀ (n : Nat) (hs : List Int) (i : Nat), i ≤ t.length → hs.length + n = 24 → (∀ x ∈ hs, 0 ≤ x ∧ x ≤ 99) → grP t i (grF t n hs i)
  | 0, hs, i, hi, hn, hb => hi
  | n + 1, hs, i, hi, hn, hb => by
    have h1 := sk_b t hi
    unfold grF
    cases hm : nm t 2 (sk t i) with
    | inl e => exact (nml k (by decide) h1.2 hm).2
    | inr z =>
      obtain ⟨e, x⟩ := z
      have hr := nmr k (by decide) h1.2 hm
      have h2 := sk_b t (i := e) hr.2.1
      have hb2 : ∀ y ∈ hs ++ [x], 0 ≤ y ∧ y ≤ 99 := by
        intro y hy
        rcases List.mem_append.mp hy with q | q
        · exact hb y q
        · rw [List.mem_singleton.mp q]; omega
      dsimp only
      by_cases c : lk t e = 44
      · rw [if_pos c]
        have hin := lk_in k hr.2.1 (by omega : lk t e ≠ -1)
        by_cases c2 : hs.length + 1 = 24
        · rw [if_pos c2]; exact h2.2
        · rw [if_neg c2]
          have := grF_b k n (hs ++ [x]) (sk t e + 1) (by omega) (by rw [List.length_append, List.length_singleton]; omega) hb2
          revert this
          cases grF t n (hs ++ [x]) (sk t e + 1) with
          | inl e2 => exact id
          | inr z2 => exact fun q => ⟨by have := q.1; omega, q.2⟩
      · rw [if_neg c]
        by_cases c2 : 4 ≤ hs.length + 1 ∧ (hs.length + 1) % 2 = 0
        · rw [if_pos c2]
          exact ⟨by omega, h2.2, by rw [List.length_append, List.length_singleton]; omega, hb2⟩
        · rw [if_neg c2]; exact h2.2
def GSOK (q : GS) : Prop := (q.1 = [] ∨ (4 ≤ q.1.length ∧ q.1.length ≤ 24 ∧ q.1.length % 2 = 0)) ∧ (∀ x ∈ q.1, 0 ≤ x ∧ x ≤ 99) ∧ (∀ v, q.2.1 = some v → inB tLo tHi 5 v) ∧ q.2.2.length ≤ 4 ∧ ∀ x ∈ q.2.2, (1 ≤ x.1 ∧ x.1 ≤ 20) ∧ 0 ≤ x.2 ∧ x.2 ≤ 9
def gcP (t : List Int) (i : Nat) (r : Nat ⊕ (Nat × GS)) : Prop := match r with
  | .inl e => e ≤ t.length
  | .inr (e, q) => i < e ∧ e ≤ t.length ∧ GSOK q
theorem tbL_no : ∀ x ∈ tbL, x ≠ -1 := by decide
theorem cdLt_no : ∀ x ∈ cdLt, x ≠ -1 := by decide
theorem inB_t0 : inB tLo tHi 5 (fun j => if j = 0 then 1 else 0) := fun j h0 h1 => by
  unfold tLo tHi
  dsimp only
  split <;> omega
theorem inB_c0 : inB cLo cHi 2 (fun _ => 1) := fun j h0 h1 => by
  unfold cLo cHi
  dsimp only
  split <;> omega
theorem gcF_b {t : List Int} (k : TOK t) {q : GS} (hq : GSOK q) {i : Nat} (hi : i ≤ t.length) : gcP t i (gcF t q i) := by
  have h1 := sk_b t hi
  unfold gcF
  by_cases c1 : lk t i = 103 ∧ q.1 = []
  · rw [if_pos c1]
    have hin := lk_in k hi (by omega : lk t i ≠ -1)
    have := grF_b k 24 [] (sk t i + 1) (by omega) rfl (fun _ h => by cases h)
    revert this
    cases grF t 24 [] (sk t i + 1) with
    | inl e => exact id
    | inr z => exact fun r => ⟨by have := r.1; omega, r.2.1, Or.inr r.2.2.1, r.2.2.2, hq.2.2⟩
  rw [if_neg c1]
  by_cases c2 : lk t i = 116 ∧ q.2.1 = none
  · rw [if_pos c2]
    have hin := lk_in k hi (by omega : lk t i ≠ -1)
    have := itF_b k tbL_no tLo tHi 6 0 (fun j => if j = 0 then 1 else 0) (sk t i + 1) (by omega) inB_t0
    revert this
    cases itF t tbL tLo tHi 6 0 (fun j => if j = 0 then 1 else 0) (sk t i + 1) with
    | inl e => exact id
    | inr z => exact fun r => ⟨by have := r.1; omega, r.2.1, hq.1, hq.2.1, fun v hv => by cases hv; exact r.2.2, hq.2.2.2⟩
  rw [if_neg c2]
  by_cases c3 : lk t i = 99 ∧ q.2.2.length < 4
  · rw [if_pos c3]
    have hin := lk_in k hi (by omega : lk t i ≠ -1)
    have := itF_b k cdLt_no cLo cHi 3 0 (fun _ => 1) (sk t i + 1) (by omega) inB_c0
    revert this
    cases itF t cdLt cLo cHi 3 0 (fun _ => 1) (sk t i + 1) with
    | inl e => exact id
    | inr z =>
      obtain ⟨e, w⟩ := z
      intro r
      have b0 := r.2.2 0 (by decide) (by decide)
      have b1 := r.2.2 1 (by decide) (by decide)
      refine ⟨by have := r.1; omega, r.2.1, hq.1, hq.2.1, hq.2.2.1, by rw [List.length_append, List.length_singleton]; omega, fun x hx => ?_⟩
      rcases List.mem_append.mp hx with y | y
      · exact hq.2.2.2.2 x y
      · rw [List.mem_singleton.mp y]; exact ⟨b0, b1⟩
  · rw [if_neg c3]; exact h1.2
def gsP (t : List Int) (r : Nat ⊕ (Nat × GS)) : Prop := match r with
  | .inl e => e ≤ t.length
  | .inr (e, q) => e ≤ t.length ∧ GSOK q
theorem gsF_b {t : List Int} (k : TOK t) : ∀ (n : Nat) (q : GS) (i : Nat), GSOK q → i ≤ t.length → gsP t (gsF t n q i)
  | 0, q, i, hq, hi => hi
  | n + 1, q, i, hq, hi => by
    have h1 := gcF_b k hq hi
    unfold gsF
    revert h1
    cases gcF t q i with
    | inl e => exact id
    | inr z =>
      obtain ⟨e, q2⟩ := z
      intro h1
      have h2 := sk_b t h1.2.1
      dsimp only
      by_cases c : lk t e = 59
      · rw [if_pos c]
        have hin := lk_in k h1.2.1 (by omega : lk t e ≠ -1)
        exact gsF_b k n q2 (sk t e + 1) h1.2.2 (by omega)
      · rw [if_neg c]; exact h1.2
theorem GSOK.g0 : GSOK ([], none, []) := ⟨Or.inl rfl, fun _ h => (by cases h), fun _ h => (by cases h), by decide, fun _ h => (by cases h)⟩
theorem gIt_b {q : GS} (hq : GSOK q) : inB tLo tHi 5 (gIt q) := by
  unfold gIt
  split
  · exact inB_t0
  · rename_i v h; exact hq.2.2.1 v h
theorem getD_in {α : Type} {l : List α} {i : Nat} (d : α) (h : i < l.length) : l.getD i d ∈ l := by
  rw [List.getD_eq_getElem?_getD, List.getElem?_eq_getElem h]
  exact List.getElem_mem h
theorem gOf_ok {q : GS} (hq : GSOK q) (hn : q.1 ≠ []) (ha : ¬ (q.1.length : Int) / 2 ≤ gIt q 0) : GOK (gOf q) := by
  have hb := gIt_b hq
  have b0 := hb 0 (by decide) (by decide)
  have b1 := hb 1 (by decide) (by decide)
  have hl := hq.1.resolve_left hn
  have t0 : tLo 0 = 1 := rfl
  have t1 : tHi 0 = 11 := rfl
  have hk := hq.2.2.2.1
  refine ⟨Or.inr ?_, ?_, ⟨fun i => ?_, fun i h => ?_, fun i => ?_, fun i h => ?_⟩, fun _ s s0 s4 => ?_⟩
  · show 4 ≤ (q.1.length : Int) ∧ (q.1.length : Int) ≤ 24 ∧ (q.1.length : Int) % 2 = 0 ∧ 1 ≤ gIt q 0 ∧ gIt q 0 ≤ 11 ∧ 2 * gIt q 0 < (q.1.length : Int)
    omega
  · show 0 ≤ (q.2.2.length : Int) ∧ (q.2.2.length : Int) ≤ 4
    omega
  · show 0 ≤ (if 0 ≤ i ∧ i < (q.1.length : Int) then q.1.getD i.toNat 0 else 0) ∧ (if 0 ≤ i ∧ i < (q.1.length : Int) then q.1.getD i.toNat 0 else 0) ≤ 99
    split
    · exact hq.2.1 _ (getD_in 0 (by omega))
    · omega
  · exact if_neg h
  · show 0 ≤ (if 0 ≤ i ∧ i < 4 then gIt q (i + 1) else 0) ∧ (if 0 ≤ i ∧ i < 4 then gIt q (i + 1) else 0) ≤ 99
    split
    · have := hb (i + 1) (by omega) (by omega)
      unfold tLo tHi at this
      rw [if_neg (by omega), if_neg (by omega)] at this
      exact this
    · omega
  · exact if_neg h
  · show 1 ≤ (if 0 ≤ s ∧ s < (q.2.2.length : Int) then (q.2.2.getD s.toNat (1, 0)).1 else 1) ∧ (if 0 ≤ s ∧ s < (q.2.2.length : Int) then (q.2.2.getD s.toNat (1, 0)).1 else 1) ≤ 20 ∧ 0 ≤ (if 0 ≤ s ∧ s < (q.2.2.length : Int) then (q.2.2.getD s.toNat (1, 0)).2 else 0) ∧ (if 0 ≤ s ∧ s < (q.2.2.length : Int) then (q.2.2.getD s.toNat (1, 0)).2 else 0) ≤ 9 ∧ ((q.2.2.length : Int) ≤ s → (if 0 ≤ s ∧ s < (q.2.2.length : Int) then (q.2.2.getD s.toNat (1, 0)).1 else 1) = 1 ∧ (if 0 ≤ s ∧ s < (q.2.2.length : Int) then (q.2.2.getD s.toNat (1, 0)).2 else 0) = 0)
    by_cases c : 0 ≤ s ∧ s < (q.2.2.length : Int)
    · rw [if_pos c, if_pos c]
      have := hq.2.2.2.2 _ (getD_in (1, 0) (show s.toNat < q.2.2.length by omega))
      exact ⟨this.1.1, this.1.2, this.2.1, this.2.2, fun z => by omega⟩
    · rw [if_neg c, if_neg c]
      omega
theorem gRd_ok {t : List Int} (k : TOK t) {G : Gdn} (h : gRd t = .inr G) : GOK G := by
  have h1 := gsF_b k 161 ([], none, []) 0 GSOK.g0 (Nat.zero_le _)
  unfold gRd at h
  revert h1 h
  cases gsF t 161 ([], none, []) 0 with
  | inl e => intro h; cases h
  | inr z =>
    obtain ⟨e, q⟩ := z
    dsimp only
    intro h h1
    by_cases c1 : lk t e ≠ -1
    · rw [if_pos c1] at h; cases h
    · rw [if_neg c1] at h
      by_cases c2 : q.1 = [] ∨ (q.1.length : Int) / 2 ≤ gIt q 0
      · rw [if_pos c2] at h; cases h
      · rw [if_neg c2] at h
        cases h
        exact gOf_ok h1.2 (fun z => c2 (Or.inl z)) (fun z => c2 (Or.inr z))
