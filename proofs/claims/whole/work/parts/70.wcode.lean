/-! a WISH's code is worth what its text says -/
def exC (ρ : Int → Int) (c st : List Int) : List Int := c.foldl (fun s w => ex1 ρ w s) st
theorem exC_app (ρ : Int → Int) (a b st : List Int) : exC ρ (a ++ b) st = exC ρ b (exC ρ a st) := by unfold exC; rw [List.foldl_append]
theorem exC_1 (ρ : Int → Int) (w : Int) (st : List Int) : exC ρ [w] st = ex1 ρ w st := rfl
def SL (c : List Int) : Prop := ∀ x ∈ c, x ≠ -59 ∧ x ≠ -63 ∧ -300 ≤ x ∧ x ≤ 10000
theorem SL.app {a b : List Int} (ha : SL a) (hb : SL b) : SL (a ++ b) := fun x hx => by
  rcases List.mem_append.mp hx with h | h
  · exact ha x h
  · exact hb x h
theorem SL.one {x : Int} (h : x ≠ -59 ∧ x ≠ -63 ∧ -300 ≤ x ∧ x ≤ 10000) : SL [x] := fun y hy => by rw [List.mem_singleton.mp hy]; exact h
def stF (ρ : Int → Int) (f : Option Vl) (st : List Int) : List Int := match f with
  | some u => u ρ :: st
  | none => st
def OkP (ρ : Int → Int) (d : Nat) (f : Option Vl) (r : PR) : Prop := ∀ k c v, r = .inr (k, c, v) → SL c ∧ ∀ st : List Int, st.length + d ≤ 24 → exC ρ c (stF ρ f st) = v ρ :: st
theorem OkP.mono {ρ : Int → Int} {d d2 : Nat} {f : Option Vl} {r : PR} (h : OkP ρ d f r) (hd : d ≤ d2) : OkP ρ d2 f r := fun k c v e => ⟨(h k c v e).1, fun st hs => (h k c v e).2 st (by omega)⟩
theorem OkP.inl {ρ : Int → Int} {d : Nat} {f : Option Vl} {e : Nat} : OkP ρ d f (.inl e) := fun k c v q => by cases q
def sgW (x : Int) : Prop := x = 42 ∨ x = 47 ∨ x = 43 ∨ x = 45 ∨ x = 38 ∨ x = 124 ∨ x = 61 ∨ x = 60 ∨ x = 62
theorem psh_lt {v : Int} {st : List Int} (h : st.length < 24) : psh v st = v :: st := if_pos h
theorem ex1_sgW {ρ : Int → Int} {x u v : Int} {st : List Int} (hx : sgW x) (hl : st.length < 24) : ex1 ρ (-x) (v :: u :: st) = jn x u v :: st := by
  unfold sgW at hx
  unfold ex1
  rw [if_neg (by omega), Int.neg_neg]
  unfold rck
  rw [if_neg (by omega), if_neg (by omega)]
  exact psh_lt hl
theorem sgW_sl {x : Int} (hx : sgW x) : SL [-x] := SL.one (by unfold sgW at hx; omega)
theorem prX_ok {t : List Int} {b : Int} {k : Nat} {c : List Int} {v : Vl} {k2 : Nat} {c2 : List Int} {v2 : Vl} (h : prX t b k c v = .inr (k2, c2, v2)) : c2 = c ∧ v2 = v := by
  unfold prX at h
  split at h
  · cases h; exact ⟨rfl, rfl⟩
  · cases h
theorem OkP.prX {ρ : Int → Int} {d : Nat} {f : Option Vl} {t : List Int} {b : Int} {r : PR} (h : OkP ρ d f r) : OkP ρ d f (prB r (prX t b)) := by
  intro k c v e
  cases q : r with
  | inl x => rw [q, prB_inl] at e; cases e
  | inr z =>
    obtain ⟨k1, c1, v1⟩ := z
    rw [q, prB_inr] at e
    obtain ⟨e1, e2⟩ := prX_ok e
    rw [e1, e2]
    exact h k1 c1 v1 q
theorem lpF_ok {ρ : Int → Int} {t : List Int} {J : Int → Bool} (hJ : ∀ x, J x = true → sgW x) {A : Option Vl → Nat → PR} {d : Nat} (hA : ∀ i, OkP ρ d none (A none i)) : ∀ (n : Nat) (f : Option Vl) (m : Int) (w : Vl) (i : Nat), (∀ i, OkP ρ d f (A f i)) → (m = 0 ∨ (sgW m ∧ f = none)) → OkP ρ (d + 1) (if m = 0 then f else some w) (lpF t J A n f m w i)
  | 0, f, m, w, i, hf, hm => OkP.inl
  | n + 1, f, m, w, i, hf, hm => by
    intro k c v e
    rw [lpF_s] at e
    cases q : A f i with
    | inl x => rw [q, prB_inl] at e; cases e
    | inr z =>
      obtain ⟨k1, c1, v1⟩ := z
      rw [q, prB_inr] at e
      obtain ⟨s1, x1⟩ := hf i k1 c1 v1 q
      have hs : SL (sw c1 m) ∧ ∀ st : List Int, st.length + (d + 1) ≤ 24 → exC ρ (sw c1 m) (stF ρ (if m = 0 then f else some w) st) = sv m w v1 ρ :: st := by
        rcases hm with h0 | ⟨h1, h2⟩
        · subst h0
          rw [if_pos rfl]
          exact ⟨s1, fun st hst => x1 st (by omega)⟩
        · have hz : m ≠ 0 := by unfold sgW at h1; omega
          subst h2
          rw [if_neg hz, sw_n hz]
          refine ⟨s1.app (sgW_sl h1), fun st hst => ?_⟩
          have x2 := x1 (w ρ :: st) (by rw [List.length_cons]; omega)
          rw [exC_app]
          show exC ρ [-m] (exC ρ c1 (w ρ :: st)) = _
          have x2 : exC ρ c1 (w ρ :: st) = v1 ρ :: w ρ :: st := x2
          rw [x2, exC_1, ex1_sgW h1 (by omega)]
          unfold sv
          rw [if_neg hz]
      by_cases hj : J (lk t k1) = true
      · rw [jK_t hj] at e
        have hg := hJ _ hj
        have hz : lk t k1 ≠ 0 := by unfold sgW at hg; omega
        have ih := lpF_ok (t := t) hJ hA n none (lk t k1) (sv m w v1) (sk t k1 + 1) hA (Or.inr ⟨hg, rfl⟩)
        rw [if_neg hz] at ih
        cases q2 : lpF t J A n none (lk t k1) (sv m w v1) (sk t k1 + 1) with
        | inl x => rw [q2, app_inl] at e; cases e
        | inr z =>
          obtain ⟨k2, c2, v2⟩ := z
          obtain ⟨s2, x2⟩ := ih k2 c2 v2 q2
          rw [q2, app_inr] at e
          cases e
          refine ⟨hs.1.app s2, fun st hst => ?_⟩
          rw [exC_app, hs.2 st hst]
          exact x2 st hst
      · rw [jK_f hj] at e
        cases e
        exact hs
theorem J1_g (x : Int) (h : J1 x = true) : sgW x := by rw [J1_t] at h; unfold sgW; omega
theorem J2_g (x : Int) (h : J2 x = true) : sgW x := by rw [J2_t] at h; unfold sgW; omega
theorem J3_g (x : Int) (h : J3 x = true) : sgW x := by rw [J3_t] at h; unfold sgW; omega
theorem J4_g (x : Int) (h : J4 x = true) : sgW x := by rw [J4_t] at h; unfold sgW; omega
theorem nm_b {t : List Int} (k : TOK t) {i e : Nat} {w : Int} (h : nm t 4 i = .inr (e, w)) : 0 ≤ w ∧ w ≤ 9999 := by
  by_cases hi : i ≤ t.length
  · have := nmr k (by decide) hi h
    omega
  · unfold nm at h
    rw [show t.length - i = 0 by omega] at h
    unfold nmF at h
    rw [if_pos rfl] at h
    cases h
theorem atF_ok {ρ : Int → Int} {t : List Int} (k : TOK t) {S : Option (Nat → PR)} {d : Nat} (hd : 1 ≤ d) (hS : ∀ F, S = some F → ∀ i, OkP ρ d none (F i)) (i : Nat) : OkP ρ d none (atF t S i) := by
  unfold atF
  by_cases c1 : lk t i = 91
  · rw [if_pos c1]
    cases S with
    | none => exact OkP.inl
    | some F => exact (hS F rfl (sk t i + 1)).prX
  rw [if_neg c1]
  by_cases c2 : lk t i = 103 ∨ lk t i = 112 ∨ lk t i = 116 ∨ lk t i = 115 ∨ lk t i = 110
  · rw [if_pos c2]
    intro k2 c v e
    cases e
    refine ⟨SL.one (by omega), fun st hst => ?_⟩
    show ex1 ρ (-lk t i) st = _
    unfold ex1
    rw [if_neg (by omega), Int.neg_neg]
    unfold rck
    rw [if_pos c2]
    exact psh_lt (by omega)
  rw [if_neg c2]
  cases e : nm t 4 (sk t i) with
  | inl x => exact OkP.inl
  | inr z =>
    obtain ⟨e1, w⟩ := z
    have h2 := nm_b k e
    intro k2 c v q
    cases q
    refine ⟨SL.one (by omega), fun st hst => ?_⟩
    show ex1 ρ w st = _
    unfold ex1
    rw [if_pos h2.1]
    exact psh_lt (by omega)
theorem smL_ok {ρ : Int → Int} {t : List Int} {A : Nat → PR} {d : Nat} (hA : ∀ i, OkP ρ d none (A i)) (i : Nat) : OkP ρ (d + 2) none (smL t (tmL t A) i) := by
  have h1 : ∀ i, OkP ρ (d + 1) none (tmL t A i) := fun i => by
    have := lpF_ok (t := t) (A := fun _ => A) J1_g hA 161 none 0 v0 i hA (Or.inl rfl)
    rw [if_pos rfl] at this
    exact this
  have := lpF_ok (t := t) (A := fun _ => tmL t A) J2_g h1 161 none 0 v0 i h1 (Or.inl rfl)
  rw [if_pos rfl] at this
  exact this
theorem smP_ok {ρ : Int → Int} {t : List Int} (k : TOK t) : ∀ (e i : Nat), OkP ρ (2 * e + 3) none (smP t e i)
  | 0, i => smL_ok (d := 1) (fun i => atF_ok k (by decide) (fun F q => by cases q) i) i
  | e + 1, i => smL_ok (d := 2 * e + 3) (fun i => atF_ok k (by omega) (fun F q => by cases q; exact smP_ok k e) i) i
theorem cmF_ok {ρ : Int → Int} {t : List Int} {S : Nat → PR} {d : Nat} (hS : ∀ i, OkP ρ d none (S i)) {f : Option Vl} {k : Nat} {c : List Int} {u : Vl} (hs : SL c) (hx : ∀ st : List Int, st.length + (d + 1) ≤ 24 → exC ρ c (stF ρ f st) = u ρ :: st) : OkP ρ (d + 1) f (cmF t S k c u) := by
  intro k2 c2 v2 e
  unfold cmF at e
  by_cases c1 : lk t k = 61 ∨ lk t k = 60 ∨ lk t k = 62
  · rw [if_pos c1] at e
    cases q : S (sk t k + 1) with
    | inl x => rw [q, prB_inl] at e; cases e
    | inr z =>
      obtain ⟨k3, c3, v3⟩ := z
      obtain ⟨s3, x3⟩ := hS _ k3 c3 v3 q
      rw [q, prB_inr] at e
      cases e
      have hg : sgW (lk t k) := by unfold sgW; omega
      refine ⟨(hs.app s3).app (sgW_sl hg), fun st hst => ?_⟩
      rw [exC_app, exC_app, hx st hst]
      have x4 : exC ρ c3 (u ρ :: st) = v3 ρ :: u ρ :: st := x3 (u ρ :: st) (by rw [List.length_cons]; omega)
      rw [x4, exC_1, ex1_sgW hg (by omega)]
  · rw [if_neg c1] at e; cases e
theorem unF_ok {ρ : Int → Int} {t : List Int} {S : Nat → PR} {d : Nat} (hS : ∀ i, OkP ρ d none (S i)) {UC : Option ((Nat → PR) × (Nat → PR))} (hU : ∀ q, UC = some q → ∀ i, OkP ρ (d + 1) none (q.1 i) ∧ OkP ρ (d + 1) none (q.2 i)) (f : Option Vl) (i : Nat) : OkP ρ (d + 1) f (unF t S UC f i) := by
  unfold unF
  cases f with
  | some u => exact cmF_ok hS (f := some u) (fun x hx => by cases hx) (fun st hst => rfl)
  | none =>
    dsimp only
    by_cases c1 : lk t i = 33
    · rw [if_pos c1]
      cases UC with
      | none => exact OkP.inl
      | some q =>
        have h3 := (hU q rfl (sk t i + 1)).1
        intro k c v e
        have e : prB (q.1 (sk t i + 1)) (fun k c v => .inr (k, c ++ [-33], ntV v)) = .inr (k, c, v) := e
        cases q2 : q.1 (sk t i + 1) with
        | inl x => rw [q2, prB_inl] at e; cases e
        | inr z =>
          obtain ⟨k3, c3, v3⟩ := z
          obtain ⟨s3, x3⟩ := h3 k3 c3 v3 q2
          rw [q2, prB_inr] at e
          cases e
          refine ⟨s3.app (SL.one (by decide)), fun st hst => ?_⟩
          rw [exC_app, x3 st hst, exC_1]
          show psh (if v3 ρ = 0 then 1 else 0) st = _
          exact psh_lt (by omega)
    rw [if_neg c1]
    by_cases c2 : lk t i = 40
    · rw [if_pos c2]
      cases UC with
      | none => exact OkP.inl
      | some q => exact ((hU q rfl (sk t i + 1)).2).prX
    rw [if_neg c2]
    intro k c v e
    cases q2 : S i with
    | inl x => rw [q2, prB_inl] at e; cases e
    | inr z =>
      obtain ⟨k3, c3, v3⟩ := z
      obtain ⟨s3, x3⟩ := hS i k3 c3 v3 q2
      rw [q2, prB_inr] at e
      exact cmF_ok hS (f := none) s3 (fun st hst => x3 st (by omega)) k c v e
theorem cdL_ok {ρ : Int → Int} {t : List Int} {U : Option Vl → Nat → PR} {d : Nat} (hU : ∀ f i, OkP ρ d f (U f i)) (f : Option Vl) (i : Nat) : OkP ρ (d + 2) f (cdL t (trL t U) f i) := by
  have h1 : ∀ f i, OkP ρ (d + 1) f (trL t U f i) := fun f i => by
    have := lpF_ok (t := t) J3_g (hU none) 161 f 0 v0 i (hU f) (Or.inl rfl)
    rw [if_pos rfl] at this
    exact this
  have := lpF_ok (t := t) J4_g (h1 none) 161 f 0 v0 i (h1 f) (Or.inl rfl)
  rw [if_pos rfl] at this
  exact this
theorem unP_ok {ρ : Int → Int} {t : List Int} (k : TOK t) : ∀ (e : Nat) (f : Option Vl) (i : Nat), OkP ρ (2 * e + 4) f (unP t e f i)
  | 0, f, i => unF_ok (smP_ok k 0) (fun q h => by cases h) f i
  | e + 1, f, i => unF_ok (smP_ok k (e + 1)) (fun q h i => by
      cases h
      exact ⟨(unP_ok k e none i).mono (by omega), (cdL_ok (unP_ok k e) none i).mono (by omega)⟩) f i
theorem cdP_ok {ρ : Int → Int} {t : List Int} (k : TOK t) (e : Nat) (f : Option Vl) (i : Nat) : OkP ρ (2 * e + 6) f (cdP t e f i) := cdL_ok (unP_ok k e) f i
/-! the run over the code -/
theorem wr_seg (ρ : Int → Int) : ∀ (c1 A B st : List Int) (n : Nat), SL c1 → wrun ρ (A ++ c1 ++ B) (n + c1.length) A.length st = wrun ρ (A ++ c1 ++ B) n (A.length + c1.length : Nat) (exC ρ c1 st)
  | [], A, B, st, n, hs => rfl
  | x :: c1, A, B, st, n, hs => by
    have hx := hs x List.mem_cons_self
    have e : A ++ (x :: c1) ++ B = (A ++ [x]) ++ c1 ++ B := by simp only [List.append_assoc, List.cons_append, List.nil_append]
    have ih := wr_seg ρ c1 (A ++ [x]) B (ex1 ρ x st) n (fun y hy => hs y (List.mem_cons_of_mem _ hy))
    rw [← e] at ih
    have g : (A ++ (x :: c1) ++ B).getD A.length 0 = x := by simp [List.getD_eq_getElem?_getD]
    have hl : A.length < (A ++ (x :: c1) ++ B).length := by simp only [List.length_append, List.length_cons]; omega
    rw [List.length_cons, show n + (c1.length + 1) = (n + c1.length) + 1 by omega, wrun, if_pos (by omega), show ((A.length : Int)).toNat = A.length by omega, g, if_neg hx.1, if_neg hx.2.1]
    rw [List.length_append, List.length_singleton] at ih
    rw [show (A.length : Int) + 1 = ((A.length + 1 : Nat) : Int) by omega, ih, show A.length + 1 + c1.length = A.length + (c1.length + 1) by omega]
    rfl
theorem getD_mid (A B : List Int) (x : Int) : (A ++ x :: B).getD A.length 0 = x := by simp [List.getD_eq_getElem?_getD]
theorem wr_ans (ρ : Int → Int) (A B st : List Int) (n : Nat) : wrun ρ (A ++ (-59) :: B) (n + 1) A.length st = st.headD 0 := by
  rw [wrun, if_pos (by simp only [List.length_append, List.length_cons]; omega), show ((A.length : Int)).toNat = A.length by omega, getD_mid, if_pos rfl]
theorem wr_unl (ρ : Int → Int) (A B st : List Int) (T : Int) (n : Nat) : wrun ρ (A ++ (-63) :: T :: B) (n + 1) A.length st = wrun ρ (A ++ (-63) :: T :: B) n (if st.headD 0 = 0 then T else (A.length + 2 : Nat)) st.tail := by
  have g : (A ++ (-63) :: T :: B).getD (A.length + 1) 0 = T := by
    have := getD_mid (A ++ [-63]) B T
    rw [List.length_append, List.length_singleton, List.append_assoc] at this
    exact this
  have hl : (A ++ (-63) :: T :: B).length = A.length + (B.length + 2) := by simp only [List.length_append, List.length_cons]
  have e : tgt (A ++ (-63) :: T :: B) A.length = T := by
    unfold tgt
    rw [if_pos (by omega), show ((A.length : Int) + 1).toNat = A.length + 1 by omega, g]
  rw [wrun, if_pos (by omega), show ((A.length : Int)).toNat = A.length by omega, getD_mid, if_neg (by decide), if_pos rfl, e]
  rfl
/-- a CLAUSE's code in its place -/
def ClOk (ρ : Int → Int) (z : Nat) (c1 : List Int) (b v : Vl) : Prop := (∀ x ∈ c1, WR x) ∧ ∀ (A B : List Int) (n : Nat), A.length = z → ∃ n2, n ≤ n2 ∧ wrun ρ (A ++ c1 ++ B) (n + c1.length) z [] = if b ρ = 0 then wrun ρ (A ++ c1 ++ B) n2 (z + c1.length : Nat) [] else v ρ
theorem SL.R {c : List Int} (h : SL c) : ∀ x ∈ c, WR x := fun x hx => by have := h x hx; unfold WR; omega
theorem pcT_ok {ρ : Int → Int} {t : List Int} (k : TOK t) {z j : Nat} {c0 : List Int} {f : Option Vl} (hz : z ≤ 1000) (h0 : SL c0) (hx : exC ρ c0 [] = stF ρ f []) {k1 : Nat} {c1 : List Int} {b v : Vl} (hc1 : z + c1.length ≤ 1000) (h : pcT t z c0 (cdP t 6 f j) = .inr (k1, c1, b, v)) : ClOk ρ z c1 b v := by
  cases e : cdP t 6 f j with
  | inl x => rw [e, pcT_l rfl] at h; cases h
  | inr q =>
    obtain ⟨k2, c, b2⟩ := q
    obtain ⟨s2, x2⟩ := cdP_ok (ρ := ρ) k 6 f j k2 c b2 e
    rw [e] at h
    by_cases hn : lk t k2 = 63
    · rw [pcT_r rfl hn] at h
      unfold pcT2 at h
      cases e2 : smP t 6 (sk t k2 + 1) with
      | inl x => rw [e2] at h; cases h
      | inr q =>
        obtain ⟨k3, c3, v3⟩ := q
        obtain ⟨s3, x3⟩ := smP_ok (ρ := ρ) k 6 (sk t k2 + 1) k3 c3 v3 e2
        rw [e2] at h
        cases h
        have y2 := x2 [] (by decide)
        have y3 : exC ρ c3 [] = [v ρ] := x3 [] (by decide)
        simp only [List.length_append, List.length_cons, List.length_nil] at hc1
        refine ⟨fun x hx => ?_, fun A B n hA => ?_⟩
        · simp only [List.mem_append, List.mem_cons, List.not_mem_nil, or_false] at hx
          rcases hx with (((hx | hx) | hx) | hx) | hx
          · exact h0.R x hx
          · exact s2.R x hx
          · rcases hx with rfl | rfl
            · exact ⟨by decide, by decide⟩
            · unfold WR; omega
          · exact s3.R x hx
          · rw [hx]; exact ⟨by decide, by decide⟩
        · subst hA
          obtain ⟨T, hT⟩ : ∃ T : Nat, T = A.length + c0.length + c.length + 2 + c3.length + 1 := ⟨_, rfl⟩
          rw [← hT]
          have el : (c0 ++ c ++ [-63, (T : Int)] ++ c3 ++ [-59]).length = c0.length + c.length + 2 + c3.length + 1 := by simp only [List.length_append, List.length_cons, List.length_nil]
          rw [el]
          -- the condition
          have g1 := wr_seg ρ (c0 ++ c) A ((-63) :: (T : Int) :: (c3 ++ (-59) :: B)) [] (n + (2 + c3.length + 1)) (h0.app s2)
          have y1 : exC ρ (c0 ++ c) [] = [b ρ] := by rw [exC_app, hx]; exact y2
          rw [y1, List.length_append] at g1
          have g2 := wr_unl ρ (A ++ (c0 ++ c)) (c3 ++ (-59) :: B) [b ρ] T (n + (1 + c3.length + 1))
          rw [List.length_append, List.length_append] at g2
          have ee : A ++ (c0 ++ c ++ [-63, (T : Int)] ++ c3 ++ [-59]) ++ B = A ++ (c0 ++ c) ++ (-63) :: (T : Int) :: (c3 ++ (-59) :: B) := by simp only [List.append_assoc, List.cons_append, List.nil_append]
          rw [ee, show n + (c0.length + c.length + 2 + c3.length + 1) = n + (2 + c3.length + 1) + (c0.length + c.length) by omega, g1, show n + (2 + c3.length + 1) = n + (1 + c3.length + 1) + 1 by omega, g2]
          refine ⟨n + (1 + c3.length + 1), by omega, ?_⟩
          show wrun ρ _ _ (if b ρ = 0 then (T : Int) else _) [] = _
          by_cases hb : b ρ = 0
          · rw [if_pos hb, if_pos hb, hT, show A.length + (c0.length + c.length + 2 + c3.length + 1) = A.length + c0.length + c.length + 2 + c3.length + 1 by omega]
          · rw [if_neg hb, if_neg hb]
            have g3 := wr_seg ρ c3 (A ++ (c0 ++ c) ++ [-63, (T : Int)]) ((-59) :: B) [] (n + 1 + 1) s3
            have g4 := wr_ans ρ (A ++ (c0 ++ c) ++ [-63, (T : Int)] ++ c3) B [v ρ] (n + 1)
            have e3 : A ++ (c0 ++ c) ++ (-63) :: (T : Int) :: (c3 ++ (-59) :: B) = A ++ (c0 ++ c) ++ [-63, (T : Int)] ++ c3 ++ (-59) :: B := by simp only [List.append_assoc, List.cons_append, List.nil_append]
            rw [e3]
            have l3 : (A ++ (c0 ++ c) ++ [-63, (T : Int)]).length = A.length + (c0.length + c.length) + 2 := by simp only [List.length_append, List.length_cons, List.length_nil]
            rw [l3, y3] at g3
            have l4 : (A ++ (c0 ++ c) ++ [-63, (T : Int)] ++ c3).length = A.length + (c0.length + c.length) + 2 + c3.length := by rw [List.length_append, l3]
            rw [l4] at g4
            rw [show n + (1 + c3.length + 1) = n + 1 + 1 + c3.length by omega, g3, g4]
            rfl
    · rw [pcT_x rfl hn] at h; cases h
theorem pcl_ok {ρ : Int → Int} {t : List Int} (k : TOK t) {z i k1 : Nat} {c1 : List Int} {b v : Vl} (hc1 : z + c1.length ≤ 1000) (h : pcl t z i = .inr (k1, c1, b, v)) : ClOk ρ z c1 b v := by
  by_cases a1 : lk t i = 121
  · by_cases a2 : lk t (sk t i + 1) = 58
    · rw [pcl_3 a1 a2] at h
      unfold pcl2 at h
      generalize sk t (sk t i + 1) + 1 = k0 at *
      by_cases c3 : lk t k0 = 33 ∨ lk t k0 = 40
      · rw [if_pos c3] at h
        exact pcT_ok k (by omega) (fun x hx => by cases hx) rfl hc1 h
      · rw [if_neg c3] at h
        cases e2 : smP t 6 k0 with
        | inl x => rw [e2] at h; cases h
        | inr q =>
          obtain ⟨k3, c5, v3⟩ := q
          obtain ⟨s3, x3⟩ := smP_ok (ρ := ρ) k 6 k0 k3 c5 v3 e2
          have y3 : exC ρ c5 [] = [v3 ρ] := x3 [] (by decide)
          rw [e2] at h
          dsimp only at h
          by_cases c4 : lk t k3 = 61 ∨ lk t k3 = 60 ∨ lk t k3 = 62
          · rw [if_pos c4] at h
            exact pcT_ok k (by omega) s3 y3 hc1 h
          · rw [if_neg c4] at h
            cases h
            refine ⟨fun x hx => ?_, fun A B n hA => ⟨n, Nat.le_refl _, ?_⟩⟩
            · rcases List.mem_append.mp hx with h | h
              · exact s3.R x h
              · rw [List.mem_singleton.mp h]; exact ⟨by decide, by decide⟩
            · subst hA
              rw [if_neg (show ¬ (1 : Int) = 0 by decide)]
              have g3 := wr_seg ρ c5 A ((-59) :: B) [] (n + 1) s3
              have g4 := wr_ans ρ (A ++ c5) B [v ρ] n
              rw [y3] at g3
              rw [List.length_append] at g4
              have e3 : A ++ (c5 ++ [-59]) ++ B = A ++ c5 ++ (-59) :: B := by simp only [List.append_assoc, List.cons_append, List.nil_append]
              rw [e3, List.length_append, List.length_singleton, show n + (c5.length + 1) = n + 1 + c5.length by omega, g3, g4]
              rfl
    · rw [pcl_2 a1 a2] at h; cases h
  · rw [pcl_1 a1] at h; cases h
theorem wr_end (ρ : Int → Int) (C st : List Int) : ∀ n : Nat, wrun ρ C n (C.length : Nat) st = 0
  | 0 => rfl
  | n + 1 => by rw [wrun, if_neg (by omega)]
theorem pcs_ok {ρ : Int → Int} {t : List Int} (k : TOK t) : ∀ (n i : Nat) (c : List Int) (l : List (Vl × Vl)) (k1 : Nat) (C : List Int) (L : List (Vl × Vl)), i ≤ t.length → c.length ≤ i → pcs t n i c l = .inr (k1, C, L) → ∃ D M, C = c ++ D ∧ L = l ++ M ∧ C.length ≤ t.length ∧ (∀ x ∈ D, WR x) ∧ ∀ fuel, D.length ≤ fuel → wrun ρ C fuel c.length [] = wrF ρ M
  | 0, i, c, l, k1, C, L, hi, hc, h => by cases h
  | n + 1, i, c, l, k1, C, L, hi, hc, h => by
    rw [pcs] at h
    have pp := pcl_pp k (z := c.length) hi
    cases e : pcl t c.length i with
    | inl x => rw [e] at h; cases h
    | inr q =>
      obtain ⟨k2, c1, b, v⟩ := q
      have p2 := pp.r e
      have t160 := k.1
      rw [e] at h
      dsimp only at h
      have ok := pcl_ok (ρ := ρ) k (by omega) e
      by_cases s1 : lk t k2 = 59
      · rw [if_pos s1] at h
        have lin := lk_in k p2.2.1 (by omega : lk t k2 ≠ -1)
        have sb := sk_b t p2.2.1
        obtain ⟨D, M, hC, hL, hlen, hr, hf⟩ := pcs_ok k n (sk t k2 + 1) (c ++ c1) (l ++ [(b, v)]) k1 C L (by omega) (by rw [List.length_append]; omega) h
        refine ⟨c1 ++ D, (b, v) :: M, by rw [hC, List.append_assoc], by rw [hL, List.append_assoc]; rfl, hlen, fun x hx => ?_, fun fuel hfu => ?_⟩
        · rcases List.mem_append.mp hx with h | h
          · exact ok.1 x h
          · exact hr x h
        · rw [List.length_append] at hfu
          obtain ⟨n2, hn2, hw⟩ := ok.2 c D (fuel - c1.length) rfl
          rw [← hC, show fuel - c1.length + c1.length = fuel by omega] at hw
          rw [hw, wrF]
          by_cases hb : b ρ = 0
          · rw [if_pos hb, if_pos hb]
            have := hf n2 (by omega)
            rw [List.length_append] at this
            exact this
          · rw [if_neg hb, if_neg hb]
      · rw [if_neg s1] at h
        by_cases s2 : lk t k2 = -1
        · rw [if_pos s2] at h
          cases h
          refine ⟨c1, [(b, v)], rfl, rfl, by rw [List.length_append]; omega, ok.1, fun fuel hfu => ?_⟩
          obtain ⟨n2, hn2, hw⟩ := ok.2 c [] (fuel - c1.length) rfl
          rw [List.append_nil, show fuel - c1.length + c1.length = fuel by omega] at hw
          rw [hw, wrF]
          by_cases hb : b ρ = 0
          · rw [if_pos hb, if_pos hb]
            have := wr_end ρ (c ++ c1) [] n2
            rw [List.length_append] at this
            exact this
          · rw [if_neg hb, if_neg hb]
        · rw [if_neg s2] at h; cases h
theorem wRd_ok {t : List Int} (k : TOK t) {k1 : Nat} {C : List Int} (h : wRd t = .inr (k1, C)) (ρ : Int → Int) : C.length ≤ 160 ∧ (∀ i, WR (C.getD i 0)) ∧ wrun ρ C C.length 0 [] = wrF ρ (wCl t) := by
  cases e : pcs t 161 0 [] [] with
  | inl x => rw [wRd_eq, e] at h; cases h
  | inr q =>
    obtain ⟨k2, C2, L⟩ := q
    rw [wRd_eq, e] at h
    cases h
    obtain ⟨D, M, hC, hL, hlen, hr, hf⟩ := pcs_ok (ρ := ρ) k 161 0 [] [] _ _ _ (Nat.zero_le _) (Nat.zero_le _) e
    have hC : C = D := hC
    have hL : L = M := hL
    subst hC hL
    have t160 := k.1
    have e2 : wCl t = L := by unfold wCl wRdV; rw [e]
    refine ⟨by omega, fun i => ?_, ?_⟩
    · rw [List.getD_eq_getElem?_getD]
      by_cases hi : i < C.length
      · rw [List.getElem?_eq_getElem hi]; exact hr _ (List.getElem_mem hi)
      · rw [List.getElem?_eq_none (by omega)]; exact ⟨by decide, by decide⟩
    · rw [e2]
      exact hf C.length (Nat.le_refl _)
