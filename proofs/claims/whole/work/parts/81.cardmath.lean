/-! CARDS: all ways tried, against the table -/
def rgL : Nat → Int → List Int
  | 0, _ => []
  | n + 1, a => a :: rgL n (a + 1)
theorem rgL_mem : ∀ {n : Nat} {a x : Int}, x ∈ rgL n a ↔ a ≤ x ∧ x < a + n
  | 0, a, x => by
    constructor
    · intro h; cases h
    · intro h; omega
  | n + 1, a, x => by
    rw [rgL, List.mem_cons, rgL_mem (n := n)]
    omega
theorem tbB_L (T2 T3 a : Int) : ∀ (n : Nat) (b : Int) (t : Tb), tbB T2 T3 a n b t = (rgL n b).foldl (fun t b => ntF T2 T3 a b t) t
  | 0, b, t => rfl
  | n + 1, b, t => by rw [tbB, tbB_L T2 T3 a n]; rfl
theorem tbA_L (T2 T3 N3 : Int) : ∀ (n : Nat) (a : Int) (t : Tb), tbA T2 T3 N3 n a t = (rgL n a).foldl (fun t a => (rgL (2 * N3 + 1).toNat (-N3)).foldl (fun t b => ntF T2 T3 a b t) t) t
  | 0, a, t => rfl
  | n + 1, a, t => by rw [tbA, tbA_L T2 T3 N3 n, tbB_L]; rfl
abbrev Ce : Type := Int × Int × Int × Int
/-- the table's cell of the sum s at the numbers a, b -/
def ceS (T2 T3 s a b : Int) (x : Ce) : Ce := if s = T2 * a + T3 * b then (if x.1 = -1 ∨ iabs a + iabs b < x.1 then (iabs a + iabs b, a, b, x.2.2.2 + 1) else (x.1, x.2.1, x.2.2.1, x.2.2.2 + 1)) else x
theorem ntF_at (T2 T3 a b s : Int) (t : Tb) : ntF T2 T3 a b t s = ceS T2 T3 s a b (t s) := rfl
theorem tbl_at (T2 T3 s a : Int) : ∀ (l : List Int) (t : Tb), (l.foldl (fun t b => ntF T2 T3 a b t) t) s = l.foldl (fun x b => ceS T2 T3 s a b x) (t s)
  | [], t => rfl
  | b :: l, t => by rw [List.foldl_cons, tbl_at T2 T3 s a l, List.foldl_cons, ntF_at]
theorem tbl2_at (T2 T3 s : Int) (l2 : List Int) : ∀ (l : List Int) (t : Tb), (l.foldl (fun t a => l2.foldl (fun t b => ntF T2 T3 a b t) t) t) s = l.foldl (fun x a => l2.foldl (fun x b => ceS T2 T3 s a b x) x) (t s)
  | [], t => rfl
  | a :: l, t => by rw [List.foldl_cons, tbl2_at T2 T3 s l2 l, List.foldl_cons, tbl_at]
theorem tab_at (T N : Int → Int) (s : Int) : tab T N s = (rgL (2 * N 2 + 1).toNat (-N 2)).foldl (fun x a => (rgL (2 * N 3 + 1).toNat (-N 3)).foldl (fun x b => ceS (T 2) (T 3) s a b x) x) (-1, 0, 0, 0) := by
  unfold tab
  rw [tbA_L, tbl2_at]
/-- what a way with these numbers makes of the best so far -/
def rfS (v : Int) (T : Int → Int) (a b c d : Int) (st : St5) : St5 := if v + a * T 0 + b * T 1 + c * T 2 + d * T 3 ≠ 0 ∨ (st.1 ≠ -1 ∧ st.1 ≤ iabs a + iabs b + iabs c + iabs d) then st else (iabs a + iabs b + iabs c + iabs d, a, b, c, d)
def cmb (a b : Int) (st : St5) (x : Ce) : St5 := if x.1 = -1 then st else if st.1 = -1 ∨ iabs a + iabs b + x.1 < st.1 then (iabs a + iabs b + x.1, a, b, x.2.1, x.2.2.1) else st
theorem cmb_s {v : Int} {T : Int → Int} {a b c d : Int} {st : St5} {x : Ce} (hx : -1 ≤ x.1) (hs : -1 ≤ st.1) : rfS v T a b c d (cmb a b st x) = cmb a b st (ceS (T 2) (T 3) (-v - T 0 * a - T 1 * b) c d x) := by
  have ha := iabs_nn a
  have hb := iabs_nn b
  have hc := iabs_nn c
  have hd := iabs_nn d
  have em : (v + a * T 0 + b * T 1 + c * T 2 + d * T 3 = 0) ↔ (-v - T 0 * a - T 1 * b = T 2 * c + T 3 * d) := by
    rw [Int.mul_comm a, Int.mul_comm b, Int.mul_comm c, Int.mul_comm d]
    omega
  unfold rfS ceS
  by_cases e : -v - T 0 * a - T 1 * b = T 2 * c + T 3 * d
  · rw [if_pos e]
    have e2 := em.mpr e
    obtain ⟨x1, x2, x3, x4⟩ := x
    obtain ⟨s1, s2⟩ := st
    unfold cmb
    dsimp only at hx hs ⊢
    by_cases c1 : x1 = -1
    · rw [if_pos c1, if_pos (Or.inl c1)]
      dsimp only
      rw [if_neg (show ¬ iabs c + iabs d = -1 by omega)]
      by_cases c2 : s1 = -1 ∨ iabs a + iabs b + (iabs c + iabs d) < s1
      · rw [if_pos c2, if_neg (by omega), show iabs a + iabs b + iabs c + iabs d = iabs a + iabs b + (iabs c + iabs d) by omega]
      · rw [if_neg c2, if_pos (by omega)]
    · rw [if_neg c1]
      by_cases c3 : iabs c + iabs d < x1
      · rw [if_pos (Or.inr c3)]
        dsimp only
        rw [if_neg (show ¬ iabs c + iabs d = -1 by omega)]
        by_cases c2 : s1 = -1 ∨ iabs a + iabs b + x1 < s1
        · rw [if_pos c2]
          dsimp only
          rw [if_neg (by omega), if_pos (by omega), show iabs a + iabs b + iabs c + iabs d = iabs a + iabs b + (iabs c + iabs d) by omega]
        · rw [if_neg c2]
          dsimp only
          by_cases c4 : s1 = -1 ∨ iabs a + iabs b + (iabs c + iabs d) < s1
          · rw [if_pos c4, if_neg (by omega), show iabs a + iabs b + iabs c + iabs d = iabs a + iabs b + (iabs c + iabs d) by omega]
          · rw [if_neg c4, if_pos (by omega)]
      · rw [if_neg (show ¬ (x1 = -1 ∨ iabs c + iabs d < x1) by omega)]
        dsimp only
        rw [if_neg c1]
        by_cases c2 : s1 = -1 ∨ iabs a + iabs b + x1 < s1
        · rw [if_pos c2]
          dsimp only
          rw [if_pos (by omega)]
        · rw [if_neg c2]
          dsimp only
          rw [if_pos (by omega)]
  · rw [if_neg e, if_pos (Or.inl (fun q => e (em.mp q)))]
theorem ceS_b {T2 T3 s a b : Int} {x : Ce} (hx : -1 ≤ x.1) : -1 ≤ (ceS T2 T3 s a b x).1 := by
  have ha := iabs_nn a
  have hb := iabs_nn b
  unfold ceS
  split
  · split
    · dsimp only; omega
    · exact hx
  · exact hx
theorem cmb_d {v : Int} {T : Int → Int} {a b c : Int} {st : St5} (hs : -1 ≤ st.1) : ∀ (l : List Int) (x : Ce), -1 ≤ x.1 → l.foldl (fun st d => rfS v T a b c d st) (cmb a b st x) = cmb a b st (l.foldl (fun x d => ceS (T 2) (T 3) (-v - T 0 * a - T 1 * b) c d x) x) ∧ -1 ≤ (l.foldl (fun x d => ceS (T 2) (T 3) (-v - T 0 * a - T 1 * b) c d x) x).1
  | [], x, hx => ⟨rfl, hx⟩
  | d :: l, x, hx => by
    rw [List.foldl_cons, List.foldl_cons, cmb_s hx hs]
    exact cmb_d hs l _ (ceS_b hx)
theorem cmb_c {v : Int} {T : Int → Int} {a b : Int} {st : St5} (hs : -1 ≤ st.1) (l2 : List Int) : ∀ (l : List Int) (x : Ce), -1 ≤ x.1 → l.foldl (fun st c => l2.foldl (fun st d => rfS v T a b c d st) st) (cmb a b st x) = cmb a b st (l.foldl (fun x c => l2.foldl (fun x d => ceS (T 2) (T 3) (-v - T 0 * a - T 1 * b) c d x) x) x)
  | [], x, hx => rfl
  | c :: l, x, hx => by
    have h := cmb_d (v := v) (T := T) (a := a) (b := b) (c := c) hs l2 x hx
    rw [List.foldl_cons, List.foldl_cons, h.1]
    exact cmb_c hs l2 l _ h.2
theorem ce_no {T2 T3 s a : Int} : ∀ (l : List Int) (x : Ce), (∀ b ∈ l, ¬ s = T2 * a + T3 * b) → l.foldl (fun x b => ceS T2 T3 s a b x) x = x
  | [], x, h => rfl
  | b :: l, x, h => by
    rw [List.foldl_cons]
    have : ceS T2 T3 s a b x = x := if_neg (h b List.mem_cons_self)
    rw [this]
    exact ce_no l x (fun y hy => h y (List.mem_cons_of_mem _ hy))
theorem ce_no2 {T2 T3 s : Int} (l2 : List Int) : ∀ (l : List Int) (x : Ce), (∀ a ∈ l, ∀ b ∈ l2, ¬ s = T2 * a + T3 * b) → l.foldl (fun x a => l2.foldl (fun x b => ceS T2 T3 s a b x) x) x = x
  | [], x, h => rfl
  | a :: l, x, h => by
    rw [List.foldl_cons, ce_no l2 x (h a List.mem_cons_self)]
    exact ce_no2 l2 l x (fun y hy => h y (List.mem_cons_of_mem _ hy))
theorem mulT_b {t n a : Int} (ht : 0 ≤ t) (ha : -n ≤ a ∧ a ≤ n) : -(t * n) ≤ t * a ∧ t * a ≤ t * n := by
  have h1 := Int.mul_le_mul_of_nonneg_left ha.1 ht
  have h2 := Int.mul_le_mul_of_nonneg_left ha.2 ht
  rw [Int.mul_neg] at h1
  exact ⟨h1, h2⟩
theorem tab_far {T N : Int → Int} (h2 : 0 ≤ T 2) (h3 : 0 ≤ T 3) (n2 : 0 ≤ N 2) (n3 : 0 ≤ N 3) {s : Int} (hs : ¬ (-far T N ≤ s ∧ s ≤ far T N)) : tab T N s = (-1, 0, 0, 0) := by
  rw [tab_at]
  refine ce_no2 _ _ _ (fun a ha b hb e => hs ?_)
  rw [rgL_mem] at ha hb
  have m1 := mulT_b (t := T 2) (n := N 2) (a := a) h2 (by omega)
  have m2 := mulT_b (t := T 3) (n := N 3) (a := b) h3 (by omega)
  unfold far
  omega
/-- the class's step is what all ways of the last two sorts make -/
theorem stB_eq {T N : Int → Int} (h2 : 0 ≤ T 2) (h3 : 0 ≤ T 3) (n2 : 0 ≤ N 2) (n3 : 0 ≤ N 3) {v a b : Int} {st : St5} (hs : -1 ≤ st.1) : stB T N v a b st = (rgL (2 * N 2 + 1).toNat (-N 2)).foldl (fun st c => (rgL (2 * N 3 + 1).toNat (-N 3)).foldl (fun st d => rfS v T a b c d st) st) st := by
  have e0 : cmb a b st (-1, 0, 0, 0) = st := if_pos rfl
  have e := cmb_c (v := v) (T := T) (a := a) (b := b) hs (rgL (2 * N 3 + 1).toNat (-N 3)) (rgL (2 * N 2 + 1).toNat (-N 2)) (-1, 0, 0, 0) (by decide)
  rw [e0, ← tab_at] at e
  rw [e]
  unfold stB cmb
  by_cases hf : -far T N ≤ -v - T 0 * a - T 1 * b ∧ -v - T 0 * a - T 1 * b ≤ far T N
  · by_cases c1 : (tab T N (-v - T 0 * a - T 1 * b)).1 = -1
    · rw [if_neg (fun q => q.2 c1), if_pos c1]
    · rw [if_pos ⟨hf, c1⟩, if_neg c1]
  · have et := tab_far h2 h3 n2 n3 hf
    rw [if_neg (fun q => hf q.1), et, if_pos rfl]
theorem rfS_b {v : Int} {T : Int → Int} {a b c d : Int} {st : St5} (hs : -1 ≤ st.1) : -1 ≤ (rfS v T a b c d st).1 := by
  have ha := iabs_nn a
  have hb := iabs_nn b
  have hc := iabs_nn c
  have hd := iabs_nn d
  unfold rfS
  split
  · exact hs
  · dsimp only; omega
theorem stB_ge {T N : Int → Int} {v a b : Int} {st : St5} (ht : ∀ s, -1 ≤ (tab T N s).1) (hs : -1 ≤ st.1) : -1 ≤ (stB T N v a b st).1 := by
  have ha := iabs_nn a
  have hb := iabs_nn b
  have h9 := ht (-v - T 0 * a - T 1 * b)
  unfold stB
  split
  · split
    · dsimp only; omega
    · exact hs
  · exact hs
theorem tab_ge {T N : Int → Int} (s : Int) : -1 ≤ (tab T N s).1 := by
  rw [tab_at]
  have h1 : ∀ (a : Int) (l : List Int) (x : Ce), -1 ≤ x.1 → -1 ≤ (l.foldl (fun x b => ceS (T 2) (T 3) s a b x) x).1 := by
    intro a l
    induction l with
    | nil => intro x hx; exact hx
    | cons b l ih => intro x hx; exact ih _ (ceS_b hx)
  have h2 : ∀ (l : List Int) (x : Ce), -1 ≤ x.1 → -1 ≤ (l.foldl (fun x a => (rgL (2 * N 3 + 1).toNat (-N 3)).foldl (fun x b => ceS (T 2) (T 3) s a b x) x) x).1 := by
    intro l
    induction l with
    | nil => intro x hx; exact hx
    | cons a l ih => intro x hx; exact ih _ (h1 a _ x hx)
  exact h2 _ _ (by decide)
theorem wfB_L {T N : Int → Int} (h2 : 0 ≤ T 2) (h3 : 0 ≤ T 3) (n2 : 0 ≤ N 2) (n3 : 0 ≤ N 3) (v a : Int) : ∀ (n : Nat) (b : Int) (st : St5), -1 ≤ st.1 → wfB T N v a n b st = (rgL n b).foldl (fun st b => (rgL (2 * N 2 + 1).toNat (-N 2)).foldl (fun st c => (rgL (2 * N 3 + 1).toNat (-N 3)).foldl (fun st d => rfS v T a b c d st) st) st) st ∧ -1 ≤ (wfB T N v a n b st).1
  | 0, b, st, hs => ⟨rfl, hs⟩
  | n + 1, b, st, hs => by
    have ih := wfB_L h2 h3 n2 n3 v a n (b + 1) (stB T N v a b st) (stB_ge tab_ge hs)
    rw [wfB, rgL, List.foldl_cons, ← stB_eq h2 h3 n2 n3 hs]
    exact ih
theorem wfA_L {T N : Int → Int} (h2 : 0 ≤ T 2) (h3 : 0 ≤ T 3) (n2 : 0 ≤ N 2) (n3 : 0 ≤ N 3) (v : Int) : ∀ (n : Nat) (a : Int) (st : St5), -1 ≤ st.1 → wfA T N v n a st = (rgL n a).foldl (fun st a => (rgL (2 * N 1 + 1).toNat (-N 1)).foldl (fun st b => (rgL (2 * N 2 + 1).toNat (-N 2)).foldl (fun st c => (rgL (2 * N 3 + 1).toNat (-N 3)).foldl (fun st d => rfS v T a b c d st) st) st) st) st
  | 0, a, st, hs => rfl
  | n + 1, a, st, hs => by
    have h := wfB_L h2 h3 n2 n3 v a (2 * N 1 + 1).toNat (-N 1) st hs
    rw [wfA, rgL, List.foldl_cons, ← h.1]
    exact wfA_L h2 h3 n2 n3 v n (a + 1) _ h.2
/-! the reference's way through all sorts -/
abbrev StN : Type := Int × (Int → Int)
def gwF (T N : Int → Int) : Nat → Int → Int → Int → (Int → Int) → StN → StN
  | 0, _, left, used, net, st => if left ≠ 0 ∨ (st.1 ≠ -1 ∧ st.1 ≤ used) then st else (used, net)
  | r + 1, sort, left, used, net, st => (rgL (2 * N sort + 1).toNat (-N sort)).foldl (fun st n => gwF T N r (sort + 1) (left + n * T sort) (used + iabs n) (upv net sort n) st) st
theorem gwF_s (T N : Int → Int) (r : Nat) (sort left used : Int) (net : Int → Int) (st : StN) : gwF T N (r + 1) sort left used net st = (rgL (2 * N sort + 1).toNat (-N sort)).foldl (fun st n => gwF T N r (sort + 1) (left + n * T sort) (used + iabs n) (upv net sort n) st) st := rfl
theorem upv_self {f : Int → Int} {j : Int} : upv f j (f j) = f := by
  funext i
  unfold upv
  split
  · rename_i e; rw [e]
  · rfl
theorem gwF_more {T N : Int → Int} {K : Int} (hN : ∀ s, K ≤ s → N s = 0) : ∀ (j r : Nat) (sort left used : Int) (net : Int → Int) (st : StN), sort + r = K → (∀ s, sort ≤ s → net s = 0) → gwF T N (r + j) sort left used net st = gwF T N r sort left used net st
  | 0, r, sort, left, used, net, st, h, hn => rfl
  | j + 1, 0, sort, left, used, net, st, h, hn => by
    rw [show 0 + (j + 1) = j + 1 by omega, gwF_s, hN sort (by omega)]
    show gwF T N j (sort + 1) (left + 0 * T sort) (used + iabs 0) (upv net sort 0) st = _
    have e1 : upv net sort 0 = net := by have := upv_self (f := net) (j := sort); rw [hn sort (Int.le_refl _)] at this; exact this
    rw [e1, Int.zero_mul, Int.add_zero, show used + iabs 0 = used from Int.add_zero used]
    have h0 : ∀ (j : Nat) (sort : Int) (st : StN), K ≤ sort → (∀ s, sort ≤ s → net s = 0) → gwF T N j sort left used net st = gwF T N 0 sort left used net st := by
      intro j
      induction j with
      | zero => intro sort st _ _; rfl
      | succ j ih =>
        intro sort st hs hn2
        rw [gwF_s, hN sort hs]
        show gwF T N j (sort + 1) (left + 0 * T sort) (used + iabs 0) (upv net sort 0) st = _
        have e1 : upv net sort 0 = net := by have := upv_self (f := net) (j := sort); rw [hn2 sort (Int.le_refl _)] at this; exact this
        rw [e1, Int.zero_mul, Int.add_zero, show used + iabs 0 = used from Int.add_zero used]
        exact ih (sort + 1) st (by omega) (fun s h9 => hn2 s (by omega))
    exact h0 j (sort + 1) st (by omega) (fun s h9 => hn s (by omega))
  | j + 1, r + 1, sort, left, used, net, st, h, hn => by
    rw [show r + 1 + (j + 1) = (r + (j + 1)) + 1 by omega, gwF_s, gwF_s]
    congr 1
    funext st n
    exact gwF_more hN (j + 1) r (sort + 1) _ _ _ st (by omega) (fun s h9 => by unfold upv; rw [if_neg (by omega)]; exact hn s (by omega))
def phi (st : StN) : St5 := (st.1, st.2 0, st.2 1, st.2 2, st.2 3)
def net4 (a b c d : Int) : Int → Int := upv (upv (upv (upv (fun _ => 0) 0 a) 1 b) 2 c) 3 d
theorem fold_phi {α : Type} {f : StN → α → StN} {g : St5 → α → St5} (h : ∀ st x, phi (f st x) = g (phi st) x) : ∀ (l : List α) (st : StN), phi (l.foldl f st) = l.foldl g (phi st)
  | [], st => rfl
  | x :: l, st => by rw [List.foldl_cons, List.foldl_cons, fold_phi h l, h]
theorem gw_phi (T N : Int → Int) (v : Int) (st : StN) : phi (gwF T N 4 0 v 0 (fun _ => 0) st) = (rgL (2 * N 0 + 1).toNat (-N 0)).foldl (fun st a => (rgL (2 * N 1 + 1).toNat (-N 1)).foldl (fun st b => (rgL (2 * N 2 + 1).toNat (-N 2)).foldl (fun st c => (rgL (2 * N 3 + 1).toNat (-N 3)).foldl (fun st d => rfS v T a b c d st) st) st) st) (phi st) := by
  refine fold_phi (fun st a => ?_) _ st
  refine fold_phi (fun st b => ?_) _ st
  refine fold_phi (fun st c => ?_) _ st
  refine fold_phi (fun st d => ?_) _ st
  show phi (if v + a * T 0 + b * T 1 + c * T 2 + d * T 3 ≠ 0 ∨ (st.1 ≠ -1 ∧ st.1 ≤ 0 + iabs a + iabs b + iabs c + iabs d) then st else (0 + iabs a + iabs b + iabs c + iabs d, net4 a b c d)) = _
  unfold rfS
  rw [Int.zero_add]
  show _ = if v + a * T 0 + b * T 1 + c * T 2 + d * T 3 ≠ 0 ∨ (st.1 ≠ -1 ∧ st.1 ≤ iabs a + iabs b + iabs c + iabs d) then phi st else _
  split
  · rfl
  · rfl
theorem wF_gw {G : Gdn} (g : GOK G) (hP : 0 < gP G) (v : Int) : wF G v = phi (gwF (gT G) (gN G) (gK G).toNat 0 v 0 (fun _ => 0) (-1, fun _ => 0)) := by
  have h := g.2.2.2 hP
  have k := g.2.1
  have hN : ∀ s, gK G ≤ s → s < 4 → gN G s = 0 := fun s h1 h2 => ((h s (by omega) h2).2.2.2.2 h1).2
  have e1 : gwF (gT G) (gN G) (gK G).toNat 0 v 0 (fun _ => 0) (-1, fun _ => 0) = gwF (gT G) (fun s => if s < 4 then gN G s else 0) (gK G).toNat 0 v 0 (fun _ => 0) (-1, fun _ => 0) := by
    have hh : ∀ (r : Nat) (sort left used : Int) (net : Int → Int) (st : StN), sort + r ≤ 4 → gwF (gT G) (gN G) r sort left used net st = gwF (gT G) (fun s => if s < 4 then gN G s else 0) r sort left used net st := by
      intro r
      induction r with
      | zero => intro sort left used net st _; rfl
      | succ r ih =>
        intro sort left used net st hr
        rw [gwF_s, gwF_s]
        show (rgL (2 * gN G sort + 1).toNat (-gN G sort)).foldl _ st = (rgL (2 * (if sort < 4 then gN G sort else 0) + 1).toNat (-(if sort < 4 then gN G sort else 0))).foldl _ st
        rw [if_pos (by omega)]
        congr 1
        funext st n
        exact ih _ _ _ _ _ (by omega)
    exact hh _ _ _ _ _ _ (by omega)
  have e2 := gwF_more (T := gT G) (N := fun s => if s < 4 then gN G s else 0) (K := gK G) (fun s hs => by
    split
    · exact hN s hs (by assumption)
    · rfl) (4 - (gK G).toNat) (gK G).toNat 0 v 0 (fun _ => 0) (-1, fun _ => 0) (by omega) (fun _ _ => rfl)
  rw [show (gK G).toNat + (4 - (gK G).toNat) = 4 by omega] at e2
  rw [e1, ← e2, gw_phi]
  unfold wF
  rw [wfA_L (by have := h 2 (by decide) (by decide); omega) (by have := h 3 (by decide) (by decide); omega) (by have := h 2 (by decide) (by decide); omega) (by have := h 3 (by decide) (by decide); omega) v _ _ _ (by decide)]
  rfl
/-! PILES -/
def pfF (T N : Int → Int) : Nat → Int → Int → Int
  | 0, _, left => if left = 0 then 1 else 0
  | r + 1, sort, left => (rgL (2 * N sort + 1).toNat (-N sort)).foldl (fun c n => c + pfF T N r (sort + 1) (left + n * T sort)) 0
theorem pfF_s (T N : Int → Int) (r : Nat) (sort left : Int) : pfF T N (r + 1) sort left = (rgL (2 * N sort + 1).toNat (-N sort)).foldl (fun c n => c + pfF T N r (sort + 1) (left + n * T sort)) 0 := rfl
theorem pfF_more {T N : Int → Int} {K : Int} (hN : ∀ s, K ≤ s → N s = 0) : ∀ (j r : Nat) (sort left : Int), sort + r = K → pfF T N (r + j) sort left = pfF T N r sort left
  | 0, r, sort, left, h => rfl
  | j + 1, 0, sort, left, h => by
    have h0 : ∀ (j : Nat) (sort : Int), K ≤ sort → pfF T N j sort left = pfF T N 0 sort left := by
      intro j
      induction j with
      | zero => intro sort _; rfl
      | succ j ih =>
        intro sort hs
        rw [pfF_s, hN sort hs]
        show 0 + pfF T N j (sort + 1) (left + 0 * T sort) = _
        rw [Int.zero_mul, Int.add_zero, Int.zero_add]
        exact ih (sort + 1) (by omega)
    rw [show 0 + (j + 1) = j + 1 by omega]
    exact h0 (j + 1) sort (by omega)
  | j + 1, r + 1, sort, left, h => by
    rw [show r + 1 + (j + 1) = (r + (j + 1)) + 1 by omega, pfF_s, pfF_s]
    congr 1
    funext c n
    rw [pfF_more hN (j + 1) r (sort + 1) _ (by omega)]
theorem foldl_add (f : Int → Int) : ∀ (l : List Int) (c : Int), l.foldl (fun c n => c + f n) c = c + l.foldl (fun c n => c + f n) 0
  | [], c => by simp
  | x :: l, c => by rw [List.foldl_cons, List.foldl_cons, foldl_add f l (c + f x), foldl_add f l (0 + f x)]; omega
theorem ce_w (T2 T3 s a : Int) : ∀ (l : List Int) (x : Ce), (l.foldl (fun x b => ceS T2 T3 s a b x) x).2.2.2 = x.2.2.2 + l.foldl (fun c b => c + (if s = T2 * a + T3 * b then 1 else 0)) 0
  | [], x => by simp
  | b :: l, x => by
    rw [List.foldl_cons, List.foldl_cons, ce_w T2 T3 s a l, foldl_add (fun b => if s = T2 * a + T3 * b then 1 else 0) l (0 + _)]
    unfold ceS
    by_cases e : s = T2 * a + T3 * b
    · rw [if_pos e, if_pos e]
      split <;> (dsimp only; omega)
    · rw [if_neg e, if_neg e]; omega
theorem ce_w2 (T2 T3 s : Int) (l2 : List Int) : ∀ (l : List Int) (x : Ce), (l.foldl (fun x a => l2.foldl (fun x b => ceS T2 T3 s a b x) x) x).2.2.2 = x.2.2.2 + l.foldl (fun c a => c + l2.foldl (fun c b => c + (if s = T2 * a + T3 * b then 1 else 0)) 0) 0
  | [], x => by simp
  | a :: l, x => by
    rw [List.foldl_cons, List.foldl_cons, ce_w2 T2 T3 s l2 l, ce_w, foldl_add (fun a => l2.foldl (fun c b => c + (if s = T2 * a + T3 * b then 1 else 0)) 0) l (0 + _)]
    omega
theorem rwB_L {T N : Int → Int} (h2 : 0 ≤ T 2) (h3 : 0 ≤ T 3) (n2 : 0 ≤ N 2) (n3 : 0 ≤ N 3) (v a : Int) : ∀ (n : Nat) (b c : Int), rwB T N v a n b c = (rgL n b).foldl (fun c b => c + (tab T N (-v - T 0 * a - T 1 * b)).2.2.2) c
  | 0, b, c => rfl
  | n + 1, b, c => by
    rw [rwB, rwB_L h2 h3 n2 n3 v a n, rgL, List.foldl_cons]
    congr 1
    unfold rwS
    split
    · rfl
    · rename_i q
      rw [tab_far h2 h3 n2 n3 q]
      exact (Int.add_zero c).symm
theorem rwA_L {T N : Int → Int} (h2 : 0 ≤ T 2) (h3 : 0 ≤ T 3) (n2 : 0 ≤ N 2) (n3 : 0 ≤ N 3) (v : Int) : ∀ (n : Nat) (a c : Int), rwA T N v n a c = (rgL n a).foldl (fun c a => c + (rgL (2 * N 1 + 1).toNat (-N 1)).foldl (fun c b => c + (tab T N (-v - T 0 * a - T 1 * b)).2.2.2) 0) c
  | 0, a, c => rfl
  | n + 1, a, c => by
    rw [rwA, rwA_L h2 h3 n2 n3 v n, rgL, List.foldl_cons, rwB_L h2 h3 n2 n3]
    congr 1
    exact foldl_add (fun b => (tab T N (-v - T 0 * a - T 1 * b)).2.2.2) _ c
theorem rw_pf {G : Gdn} (g : GOK G) (hP : 0 < gP G) (v : Int) : rwF G v = pfF (gT G) (gN G) (gK G).toNat 0 v := by
  have h := g.2.2.2 hP
  have k := g.2.1
  have hN : ∀ s, gK G ≤ s → s < 4 → gN G s = 0 := fun s h1 h2 => ((h s (by omega) h2).2.2.2.2 h1).2
  have hh : ∀ (r : Nat) (sort left : Int), sort + r ≤ 4 → pfF (gT G) (gN G) r sort left = pfF (gT G) (fun s => if s < 4 then gN G s else 0) r sort left := by
    intro r
    induction r with
    | zero => intro sort left _; rfl
    | succ r ih =>
      intro sort left hr
      rw [pfF_s, pfF_s]
      show (rgL (2 * gN G sort + 1).toNat (-gN G sort)).foldl _ 0 = (rgL (2 * (if sort < 4 then gN G sort else 0) + 1).toNat (-(if sort < 4 then gN G sort else 0))).foldl _ 0
      rw [if_pos (by omega)]
      congr 1
      funext c n
      rw [ih _ _ (by omega)]
  have e2 := pfF_more (T := gT G) (N := fun s => if s < 4 then gN G s else 0) (K := gK G) (fun s hs => by
    split
    · exact hN s hs (by assumption)
    · rfl) (4 - (gK G).toNat) (gK G).toNat 0 v (by omega)
  rw [show (gK G).toNat + (4 - (gK G).toNat) = 4 by omega, ← hh 4 0 v (by omega)] at e2
  rw [hh _ _ _ (by omega), ← e2]
  unfold rwF
  rw [rwA_L (by have := h 2 (by decide) (by decide); omega) (by have := h 3 (by decide) (by decide); omega) (by have := h 2 (by decide) (by decide); omega) (by have := h 3 (by decide) (by decide); omega)]
  show _ = (rgL (2 * gN G 0 + 1).toNat (-gN G 0)).foldl (fun c a => c + (rgL (2 * gN G 1 + 1).toNat (-gN G 1)).foldl (fun c b => c + (rgL (2 * gN G 2 + 1).toNat (-gN G 2)).foldl (fun c c1 => c + (rgL (2 * gN G 3 + 1).toNat (-gN G 3)).foldl (fun c d => c + (if v + a * gT G 0 + b * gT G 1 + c1 * gT G 2 + d * gT G 3 = 0 then 1 else 0)) 0) 0) 0) 0
  congr 1
  funext c a
  congr 2
  funext c b
  congr 1
  rw [tab_at, ce_w2]
  show 0 + _ = _
  rw [Int.zero_add]
  congr 1
  funext c c1
  congr 2
  funext c d
  congr 1
  have em : (v + a * gT G 0 + b * gT G 1 + c1 * gT G 2 + d * gT G 3 = 0) ↔ (-v - gT G 0 * a - gT G 1 * b = gT G 2 * c1 + gT G 3 * d) := by
    rw [Int.mul_comm a, Int.mul_comm b, Int.mul_comm c1, Int.mul_comm d]
    omega
  by_cases e : -v - gT G 0 * a - gT G 1 * b = gT G 2 * c1 + gT G 3 * d
  · rw [if_pos e, if_pos (em.mpr e)]
  · rw [if_neg e, if_neg (fun q => e (em.mp q))]
