/-! a WISH's text: places, how many words -/
theorem prB_inr {k : Nat} {c : List Int} {v : Vl} {f : Nat → List Int → Vl → PR} : prB (.inr (k, c, v)) f = f k c v := rfl
theorem prB_inl {e : Nat} {f : Nat → List Int → Vl → PR} : prB (.inl e) f = .inl e := rfl
def jK (t : List Int) (J : Int → Bool) (F : Int → Vl → Nat → PR) (a : Int) (u : Vl) (k : Nat) (c : List Int) (v : Vl) : PR := if J (lk t k) = true then app (sw c a) (F (lk t k) (sv a u v) (sk t k + 1)) else .inr (sk t k, sw c a, sv a u v)
theorem lpF_s {t : List Int} {J : Int → Bool} {A : Option Vl → Nat → PR} {n : Nat} {f : Option Vl} {m : Int} {w : Vl} {i : Nat} : lpF t J A (n + 1) f m w i = prB (A f i) (jK t J (lpF t J A n none) m w) := rfl
theorem jK_t {t : List Int} {J : Int → Bool} {F : Int → Vl → Nat → PR} {a : Int} {u : Vl} {k : Nat} {c : List Int} {v : Vl} (h : J (lk t k) = true) : jK t J F a u k c v = app (sw c a) (F (lk t k) (sv a u v) (sk t k + 1)) := if_pos h
theorem jK_f {t : List Int} {J : Int → Bool} {F : Int → Vl → Nat → PR} {a : Int} {u : Vl} {k : Nat} {c : List Int} {v : Vl} (h : ¬ J (lk t k) = true) : jK t J F a u k c v = .inr (sk t k, sw c a, sv a u v) := if_neg h
theorem app_app (a b : List Int) (r : PR) : app a (app b r) = app (a ++ b) r := by
  cases r with
  | inl e => rfl
  | inr z => show Sum.inr (z.1, a ++ (b ++ z.2.1), z.2.2) = Sum.inr (z.1, a ++ b ++ z.2.1, z.2.2); rw [List.append_assoc]
theorem app_nil (r : PR) : app [] r = r := by cases r <;> rfl
theorem app_inl {c : List Int} {e : Nat} : app c (.inl e) = .inl e := rfl
theorem app_inr {c c2 : List Int} {k : Nat} {v : Vl} : app c (.inr (k, c2, v)) = .inr (k, c ++ c2, v) := rfl
theorem sw_app (b c : List Int) (a : Int) : sw (b ++ c) a = b ++ sw c a := by
  unfold sw
  split
  · rfl
  · rw [List.append_assoc]
theorem prB_app_jK {t : List Int} {J : Int → Bool} {F : Int → Vl → Nat → PR} {a : Int} {u : Vl} (b : List Int) (r : PR) : prB (app b r) (jK t J F a u) = app b (prB r (jK t J F a u)) := by
  cases r with
  | inl e => rfl
  | inr z =>
    obtain ⟨k, c, v⟩ := z
    show jK t J F a u k (b ++ c) v = app b (jK t J F a u k c v)
    by_cases h : J (lk t k) = true
    · rw [jK_t h, jK_t h, app_app, sw_app]
    · rw [jK_f h, jK_f h, app_inr, sw_app]
def pd (m : Int) : Nat := if m = 0 then 0 else 1
theorem sw_len (c : List Int) (m : Int) : (sw c m).length = c.length + pd m := by
  unfold sw pd
  split
  · rfl
  · rw [List.length_append, List.length_singleton]
theorem pd_le (m : Int) : pd m ≤ 1 := by unfold pd; split <;> omega
/-- places and words of what is read from i on; b words more -/
def PP (t : List Int) (i b : Nat) (r : PR) : Prop := match r with
  | .inl e => e ≤ t.length
  | .inr (k, c, _) => i < k ∧ k ≤ t.length ∧ c.length ≤ k - i + b
theorem PP.r {t : List Int} {i b k : Nat} {c : List Int} {v : Vl} {r : PR} (h : PP t i b r) (e : r = .inr (k, c, v)) : i < k ∧ k ≤ t.length ∧ c.length ≤ k - i + b := by rw [e] at h; exact h
theorem PP.l {t : List Int} {i b e : Nat} {r : PR} (h : PP t i b r) (q : r = .inl e) : e ≤ t.length := by rw [q] at h; exact h
theorem prX_pp {t : List Int} (k : TOK t) {b : Int} (hb : b ≠ -1) {i j : Nat} {c : List Int} {v : Vl} (hj : j ≤ t.length) (hij : i ≤ j) (hc : c.length ≤ j - i) : PP t i 0 (prX t b j c v) := by
  have h1 := sk_b t hj
  unfold prX
  by_cases h : lk t j = b
  · rw [if_pos h]
    have := lk_in k hj (by rw [h]; exact hb)
    exact ⟨by omega, by omega, by omega⟩
  · rw [if_neg h]; exact h1.2
theorem lpF_pp {t : List Int} (k : TOK t) {J : Int → Bool} (hJ : J (-1) = false) {A : Option Vl → Nat → PR} (hA : ∀ f i, i ≤ t.length → PP t i 0 (A f i)) : ∀ (n : Nat) (f : Option Vl) (m : Int) (w : Vl) (i : Nat), i ≤ t.length → PP t i (pd m) (lpF t J A n f m w i)
  | 0, f, m, w, i, hi => hi
  | n + 1, f, m, w, i, hi => by
    rw [lpF_s]
    have h1 := hA f i hi
    cases e : A f i with
    | inl x => exact h1.l e
    | inr z =>
      obtain ⟨j, c, v⟩ := z
      have h2 := h1.r e
      have h3 := sk_b t h2.2.1
      rw [prB_inr]
      by_cases h : J (lk t j) = true
      · rw [jK_t h]
        have h4 := lk_in k h2.2.1 (fun q => by rw [q, hJ] at h; cases h)
        have h5 := lpF_pp k hJ hA n none (lk t j) (sv m w v) (sk t j + 1) (by omega)
        cases e2 : lpF t J A n none (lk t j) (sv m w v) (sk t j + 1) with
        | inl x => exact h5.l e2
        | inr z =>
          obtain ⟨j2, c2, v2⟩ := z
          have h6 := h5.r e2
          rw [app_inr]
          have := pd_le (lk t j)
          exact ⟨by omega, h6.2.1, by rw [List.length_append, sw_len]; omega⟩
      · rw [jK_f h]
        exact ⟨by omega, h3.2, by rw [sw_len]; omega⟩
theorem atF_pp {t : List Int} (k : TOK t) {S : Option (Nat → PR)} (hS : ∀ F, S = some F → ∀ i, i ≤ t.length → PP t i 0 (F i)) {i : Nat} (hi : i ≤ t.length) : PP t i 0 (atF t S i) := by
  have h1 := sk_b t hi
  unfold atF
  by_cases c1 : lk t i = 91
  · rw [if_pos c1]
    have h2 := lk_in k hi (by omega : lk t i ≠ -1)
    cases S with
    | none => exact h1.2
    | some F =>
      have h3 := hS F rfl (sk t i + 1) (by omega)
      show PP t i 0 (prB (F (sk t i + 1)) (prX t 93))
      cases e : F (sk t i + 1) with
      | inl x => exact h3.l e
      | inr z =>
        obtain ⟨j2, c2, v2⟩ := z
        have h4 := h3.r e
        exact prX_pp k (by decide) h4.2.1 (by omega) (by omega)
  rw [if_neg c1]
  by_cases c2 : lk t i = 103 ∨ lk t i = 112 ∨ lk t i = 116 ∨ lk t i = 115 ∨ lk t i = 110
  · rw [if_pos c2]
    have h2 := lk_in k hi (by omega : lk t i ≠ -1)
    exact ⟨by omega, by omega, by show 1 ≤ _; omega⟩
  rw [if_neg c2]
  cases e : nm t 4 (sk t i) with
  | inl x => exact (nml k (by decide) h1.2 e).2
  | inr z =>
    have h2 := nmr k (w := z.2) (e := z.1) (by decide) h1.2 e
    exact ⟨by omega, h2.2.1, by show 1 ≤ _; omega⟩
theorem smP_pp {t : List Int} (k : TOK t) : ∀ (e : Nat) (i : Nat), i ≤ t.length → PP t i 0 (smP t e i)
  | 0, i, hi => by
    refine lpF_pp k rfl (fun f i hi => lpF_pp k rfl (fun f i hi => atF_pp k (fun F q => by cases q) hi) 161 none 0 v0 i hi) 161 none 0 v0 i hi
  | e + 1, i, hi => by
    refine lpF_pp k rfl (fun f i hi => lpF_pp k rfl (fun f i hi => atF_pp k (fun F q => by cases q; exact smP_pp k e) hi) 161 none 0 v0 i hi) 161 none 0 v0 i hi
theorem atP_pp {t : List Int} (k : TOK t) (e : Nat) {i : Nat} (hi : i ≤ t.length) : PP t i 0 (atP t e i) := by
  cases e with
  | zero => exact atF_pp (S := none) k (fun F q => by cases q) hi
  | succ e => exact atF_pp (S := some (smP t e)) k (fun F q => by cases q; exact smP_pp k e) hi
theorem cmF_pp {t : List Int} (k : TOK t) {S : Nat → PR} (hS : ∀ i, i ≤ t.length → PP t i 0 (S i)) {i j : Nat} {c : List Int} {u : Vl} (hj : j ≤ t.length) (hij : i ≤ j) (hc : c.length ≤ j - i) : PP t i 0 (cmF t S j c u) := by
  have h1 := sk_b t hj
  unfold cmF
  by_cases c1 : lk t j = 61 ∨ lk t j = 60 ∨ lk t j = 62
  · rw [if_pos c1]
    have h2 := lk_in k hj (by omega : lk t j ≠ -1)
    have h3 := hS (sk t j + 1) (by omega)
    cases e : S (sk t j + 1) with
    | inl x => exact h3.l e
    | inr z =>
      obtain ⟨j2, c2, v2⟩ := z
      have h4 := h3.r e
      exact ⟨by omega, h4.2.1, by simp only [List.length_append, List.length_singleton]; omega⟩
  · rw [if_neg c1]; exact h1.2
theorem unF_pp {t : List Int} (k : TOK t) {S : Nat → PR} (hS : ∀ i, i ≤ t.length → PP t i 0 (S i)) {UC : Option ((Nat → PR) × (Nat → PR))} (hU : ∀ q, UC = some q → ∀ i, i ≤ t.length → PP t i 0 (q.1 i) ∧ PP t i 0 (q.2 i)) (f : Option Vl) {i : Nat} (hi : i ≤ t.length) : PP t i 0 (unF t S UC f i) := by
  have h1 := sk_b t hi
  unfold unF
  cases f with
  | some u => exact cmF_pp k hS hi (Nat.le_refl _) (Nat.zero_le _)
  | none =>
    dsimp only
    by_cases c1 : lk t i = 33
    · rw [if_pos c1]
      have h2 := lk_in k hi (by omega : lk t i ≠ -1)
      cases UC with
      | none => exact h1.2
      | some q =>
        have h3 := (hU q rfl (sk t i + 1) (by omega)).1
        show PP t i 0 (prB (q.1 (sk t i + 1)) _)
        cases e : q.1 (sk t i + 1) with
        | inl x => exact h3.l e
        | inr z =>
          obtain ⟨j2, c2, v2⟩ := z
          have h4 := h3.r e
          exact ⟨by omega, h4.2.1, by simp only [List.length_append, List.length_singleton]; omega⟩
    rw [if_neg c1]
    by_cases c2 : lk t i = 40
    · rw [if_pos c2]
      have h2 := lk_in k hi (by omega : lk t i ≠ -1)
      cases UC with
      | none => exact h1.2
      | some q =>
        have h3 := (hU q rfl (sk t i + 1) (by omega)).2
        show PP t i 0 (prB (q.2 (sk t i + 1)) (prX t 41))
        cases e : q.2 (sk t i + 1) with
        | inl x => exact h3.l e
        | inr z =>
          obtain ⟨j2, c2, v2⟩ := z
          have h4 := h3.r e
          exact prX_pp k (by decide) h4.2.1 (by omega) (by omega)
    rw [if_neg c2]
    have h3 := hS i hi
    cases e : S i with
    | inl x => exact h3.l e
    | inr z =>
      obtain ⟨j2, c2, v2⟩ := z
      have h4 := h3.r e
      exact cmF_pp k hS h4.2.1 (by omega) (by omega)
theorem unP_pp {t : List Int} (k : TOK t) : ∀ (e : Nat) (f : Option Vl) (i : Nat), i ≤ t.length → PP t i 0 (unP t e f i)
  | 0, f, i, hi => unF_pp k (smP_pp k 0) (fun q h => by cases h) f hi
  | e + 1, f, i, hi => unF_pp k (smP_pp k (e + 1)) (fun q h i hi => by
      cases h
      exact ⟨unP_pp k e none i hi, lpF_pp k rfl (fun f i hi => lpF_pp k rfl (fun f i hi => unP_pp k e f i hi) 161 f 0 v0 i hi) 161 none 0 v0 i hi⟩) f hi
theorem trP_pp {t : List Int} (k : TOK t) (e : Nat) (f : Option Vl) {i : Nat} (hi : i ≤ t.length) : PP t i 0 (trP t e f i) := lpF_pp k rfl (fun f i hi => unP_pp k e f i hi) 161 f 0 v0 i hi
theorem cdP_pp {t : List Int} (k : TOK t) (e : Nat) (f : Option Vl) {i : Nat} (hi : i ≤ t.length) : PP t i 0 (cdP t e f i) := lpF_pp k rfl (fun f i hi => trP_pp k e f hi) 161 f 0 v0 i hi
/-- the code that is put so far -/
def CW (h : Hp) (w : List Int) : Prop := hI h 5 1 = w.length ∧ ∀ i : Nat, i < w.length → hI h 6 i = w.getD i 0
def SW (c j : Nat) : Prop := (c = 1 ∧ j = 2) ∨ c = 5 ∨ c = 6
def ptH (h : Hp) (x : Int) : Hp := sI (sI h 6 (hI h 5 1).toNat x) 5 1 (hI h 5 1 + 1)
theorem CW.put {h : Hp} {w : List Int} (c : CW h w) (x : Int) : CW (ptH h x) (w ++ [x]) := by
  have c1 := c.1
  unfold ptH
  refine ⟨by rw [hI_same, c1, List.length_append, List.length_singleton]; omega, fun i hi => ?_⟩
  rw [List.length_append, List.length_singleton] at hi
  rw [hI_sI, if_neg (by omega), hI_sI]
  by_cases q : i = w.length
  · rw [if_pos ⟨rfl, by omega⟩, q]; simp
  · rw [if_neg (by omega), c.2 i (by omega), List.getD_eq_getElem?_getD, List.getD_eq_getElem?_getD, List.getElem?_append_left (by omega)]
theorem Kp.pt {h : Hp} {x : Int} : Kp SW h (ptH h x) := (Kp.sI (Or.inr (Or.inr rfl))).tr (Kp.sI (Or.inr (Or.inl rfl)))
theorem ptH_at {h : Hp} {x : Int} : hI (ptH h x) 1 2 = hI h 1 2 := by unfold ptH; rw [hI_sI, if_neg (by omega), hI_sI, if_neg (by omega)]
theorem TPh.sw {h h' : Hp} {t : List Int} (tp : TPh h t) (k : Kp SW h h') : TPh h' t := tp.kp k (by unfold SW; omega)
theorem CW.at {h : Hp} {w : List Int} (c : CW h w) {v : Int} : CW (sI h 1 2 v) w := ⟨by rw [hI_sI, if_neg (by omega)]; exact c.1, fun i hi => by rw [hI_sI, if_neg (by omega)]; exact c.2 i hi⟩
theorem kpAt {h : Hp} {v : Int} : Kp SW h (sI h 1 2 v) := Kp.sI (Or.inl ⟨rfl, rfl⟩)
/-- what a part of the reader leaves -/
def PQ (h : Hp) (w : List Int) (V : PR) (rv : Option Value) (h' : Hp) : Prop := rv = some (.int (iI (b2i (V.isRight = true)))) ∧ hI h' 1 2 = psI V ∧ (∀ k c v, V = .inr (k, c, v) → CW h' (w ++ c)) ∧ Kp SW h h'
/-- a place at which a part is read -/
def RP (h : Hp) (t w : List Int) (i : Nat) : Prop := TPh h t ∧ TOK t ∧ hI h 1 2 = i ∧ 1 ≤ i ∧ i ≤ t.length ∧ CW h w ∧ w.length ≤ i
def AtC (X : Cx) (e : Nat) : Prop := ∀ (h : Hp) (t w : List Int) (i : Nat), RP h t w i → Spec X mX9_atom (2 * e + 2) [.ref (adr X 5), .ref (adr X 1), .int (iI (6 - e))] h (PQ h w (atP t e i))
def SmC (X : Cx) (e : Nat) : Prop := ∀ (h : Hp) (t w : List Int) (i : Nat), RP h t w i → Spec X mX9_sum (2 * e + 3) [.ref (adr X 5), .ref (adr X 1), .int (iI (6 - e))] h (PQ h w (smP t e i))
def UnC (X : Cx) (e : Nat) : Prop := ∀ (h : Hp) (t w : List Int) (i : Nat) (f : Option Vl), RP h t w i → Spec X mX9_unit (2 * e + 4) [.ref (adr X 5), .ref (adr X 1), .int (iI (6 - e)), .int (iI (b2i (f.isSome = true)))] h (PQ h w (unP t e f i))
def CdC (X : Cx) (e : Nat) : Prop := ∀ (h : Hp) (t w : List Int) (i : Nat) (f : Option Vl), RP h t w i → Spec X mX9_condition (2 * e + 5) [.ref (adr X 5), .ref (adr X 1), .int (iI (6 - e)), .int (iI (b2i (f.isSome = true)))] h (PQ h w (cdP t e f i))
