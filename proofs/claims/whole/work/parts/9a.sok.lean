/-! a state's bounds are kept -/
theorem TOK.nil : TOK [] := ⟨by decide, fun _ h => by cases h⟩
theorem fdL_b (a b c d e : Int) : ∀ x ∈ fdL a b c d e, 1 ≤ x ∧ x ≤ 255 := by
  intro x hx
  unfold fdL at hx
  rcases List.mem_append.mp hx with hx | hx
  · rcases List.mem_append.mp hx with hx | hx
    · rcases List.mem_append.mp hx with hx | hx
      · rcases List.mem_append.mp hx with hx | hx
        · exact bsF_b _ _ x hx
        · exact bsF_b _ _ x hx
      · exact bsF_b _ _ x hx
    · exact bsF_b _ _ x hx
  · exact bsF_b _ _ x hx
theorem SOK.setT {σ : Sg} (o : SOK σ) {t : List Int} (h : TOK t) : SOK (setT σ t) := ⟨h, o.2⟩
theorem ok_nFeed {σ : Sg} (o : SOK σ) (a b c d e : Int) : SOK (nFeed σ a b c d e) := by
  unfold nFeed
  split
  · rename_i h
    refine o.setT ⟨by rw [List.length_append]; exact h, fun x hx => ?_⟩
    rcases List.mem_append.mp hx with q | q
    · exact o.1.2 x q
    · exact fdL_b a b c d e x q
  · exact o
theorem ok_nEnd {σ : Sg} (o : SOK σ) (n : Int) : SOK (nEnd σ n) := by
  unfold nEnd
  split
  · refine o.setT ⟨?_, fun x hx => o.1.2 x (List.mem_of_mem_take hx)⟩
    have := o.1.1
    rw [List.length_take]
    omega
  · exact o
theorem ok_nWish {σ : Sg} (o : SOK σ) (w : Int) : SOK (nWish σ w) := by
  unfold nWish
  split
  · rename_i h
    refine ⟨o.1, o.2.1, h.2, o.2.2.2.1, o.2.2.2.2.1, o.2.2.2.2.2.1, o.2.2.2.2.2.2.1, fun q => ?_⟩
    have q : gP (sG σ) = 0 := q
    omega
  · exact o
theorem ok_nGd {σ : Sg} (o : SOK σ) {G : Gdn} (g : GOK G) : SOK (nGd σ G) := by
  refine ⟨TOK.nil, o.2.1, ⟨Int.le_refl (-1), ?_⟩, g, ⟨Nat.zero_le _, fun q h => (by cases h)⟩, ⟨Nat.zero_le _, fun q h => (by cases h)⟩, fun l h => (by cases h), fun _ => ⟨rfl, rfl, rfl⟩⟩
  show (-1 : Int) < ((sW σ).length : Int)
  omega
theorem ok_nWs {σ : Sg} (o : SOK σ) (h4 : (sW σ).length < 4) {q : Nat × List Int} (h : wRd (sT σ) = .inr q) : SOK (nWs σ) := by
  refine ⟨TOK.nil, ⟨?_, fun t ht => ?_⟩, ⟨o.2.2.1.1, ?_⟩, o.2.2.2.1, o.2.2.2.2.1, o.2.2.2.2.2.1, o.2.2.2.2.2.2.1, o.2.2.2.2.2.2.2⟩
  · show (sW σ ++ [sT σ]).length ≤ 4
    rw [List.length_append, List.length_singleton]
    omega
  · rcases List.mem_append.mp ht with z | z
    · exact o.2.1.2 t z
    · rw [List.mem_singleton.mp z]; exact ⟨o.1, q, h⟩
  · show sD σ < ((sW σ ++ [sT σ]).length : Int)
    have := o.2.2.1.2
    rw [List.length_append, List.length_singleton]
    omega
theorem ok_nText {σ : Sg} (o : SOK σ) (s : Int) : SOK (nText σ s) := by
  unfold nText
  by_cases a : s = 0
  · rw [if_pos a]
    cases e : gRd (sT σ) with
    | inl x => exact o
    | inr G => exact ok_nGd o (gRd_ok o.1 e)
  · rw [if_neg a]
    by_cases b : s = 1
    · rw [if_pos b]
      cases e : wRd (sT σ) with
      | inl x => exact o
      | inr q =>
        dsimp only
        by_cases c : (sW σ).length < 4
        · rw [if_pos c]; exact ok_nWs o c e
        · rw [if_neg c]; exact o
    · rw [if_neg b]; exact o
theorem SOK.act {σ : Sg} (o : SOK σ) (hP : 0 < gP (sG σ)) {l : Lie} (hl : LOK (gP (sG σ)) l) : SOK (setG (pushA σ) (gSet (sG σ) l)) := SOK.setL (σ := pushA σ) (o.push hP) hl
theorem ok_nSaw {σ : Sg} (o : SOK σ) (l b : Int) : SOK (nSaw σ l b) := by
  unfold nSaw
  split
  · rename_i h
    have k := o.2.2.2.1.lok
    refine o.act h.1 ⟨k.1, k.2.1, fun i => ?_, fun i hi => ?_⟩
    · have := k.2.2.1 i
      have h4 := h.2.2.2
      have e : (gLie (sG σ)).2 i = gS (sG σ) i := rfl
      show 0 ≤ (if i = l then gS (sG σ) i + b else gS (sG σ) i) ∧ (if i = l then gS (sG σ) i + b else gS (sG σ) i) ≤ 99
      by_cases q : i = l
      · rw [if_pos q, q]; rw [q] at e this; omega
      · rw [if_neg q]; omega
    · have := k.2.2.2 i hi
      have e : (gLie (sG σ)).2 i = gS (sG σ) i := rfl
      show (if i = l then gS (sG σ) i + b else gS (sG σ) i) = 0
      rw [if_neg (by omega)]
      omega
  · exact o
theorem ok_nHeap {σ : Sg} (o : SOK σ) (p v : Int) : SOK (nHeap σ p v) := by
  unfold nHeap
  split
  · rename_i h
    have k := o.2.2.2.1.lok
    refine o.act (by omega) ⟨fun i => ?_, fun i hi => ?_, k.2.2.1, k.2.2.2⟩
    · have := k.1 i
      have e : (gLie (sG σ)).1 i = gH (sG σ) i := rfl
      show 0 ≤ (if i = p then v else gH (sG σ) i) ∧ (if i = p then v else gH (sG σ) i) ≤ 99
      by_cases q : i = p
      · rw [if_pos q]; omega
      · rw [if_neg q]; omega
    · have := k.2.1 i hi
      have e : (gLie (sG σ)).1 i = gH (sG σ) i := rfl
      show (if i = p then v else gH (sG σ) i) = 0
      rw [if_neg (by omega)]
      omega
  · exact o
theorem ok_nDrawn {σ : Sg} (o : SOK σ) (x : Int64) (m : Int) : SOK (nDrawn σ x m) := by
  unfold nDrawn
  split
  · rename_i h
    have k := o.2.2.2.1.lok
    refine o.act h.1 ⟨fun i => ?_, fun i hi => ?_, k.2.2.1, k.2.2.2⟩
    · show 0 ≤ (if 0 ≤ i ∧ i < gP (sG σ) then dval x (m + 1) i.toNat else 0) ∧ (if 0 ≤ i ∧ i < gP (sG σ) then dval x (m + 1) i.toNat else 0) ≤ 99
      have := dval_b x (m := m + 1) (by omega) i.toNat
      split <;> omega
    · show (if 0 ≤ i ∧ i < gP (sG σ) then dval x (m + 1) i.toNat else 0) = 0
      rw [if_neg hi]
  · exact o
theorem ok_nUndo {σ : Sg} (o : SOK σ) : SOK (nUndo σ) := by
  unfold nUndo
  cases e : sAc σ with
  | nil => exact o
  | cons l r =>
    have a := o.2.2.2.2.2.1
    rw [e] at a
    have hn : gP (sG σ) = 0 → False := fun q => by have z := (o.2.2.2.2.2.2.2 q).2.1; rw [e] at z; cases z
    have o2 : SOK (setA σ r) := ⟨o.1, o.2.1, o.2.2.1, o.2.2.2.1, o.2.2.2.2.1, ⟨by have z := a.1; rw [List.length_cons] at z; show r.length ≤ 40; omega, fun l hl => a.2 l (List.mem_cons_of_mem _ hl)⟩, o.2.2.2.2.2.2.1, fun q => (hn q).elim⟩
    exact SOK.setL (σ := setA σ r) o2 (a.2 l List.mem_cons_self)
theorem ok_nImage {σ : Sg} (o : SOK σ) : SOK (nImage σ) := by
  unfold nImage
  split
  · exact o
  · rename_i h
    exact ⟨o.1, o.2.1, o.2.2.1, o.2.2.2.1, o.2.2.2.2.1, o.2.2.2.2.2.1, fun l hl => (by cases hl; exact o.2.2.2.1.lok), fun q => absurd q h⟩
theorem ok_nBack {σ : Sg} (o : SOK σ) : SOK (nBack σ) := by
  unfold nBack
  cases e : sIm σ with
  | none => exact o
  | some l =>
    have o2 := o.setL (o.2.2.2.2.2.2.1 l e)
    exact ⟨o2.1, o2.2.1, o2.2.2.1, o2.2.2.2.1, o2.2.2.2.2.1, ⟨Nat.zero_le _, fun l hl => (by cases hl)⟩, o2.2.2.2.2.2.2.1, fun q => ⟨(o2.2.2.2.2.2.2.2 q).1, rfl, (o2.2.2.2.2.2.2.2 q).2.2⟩⟩
theorem ok_nRock {σ : Sg} (o : SOK σ) (p s : Int) : SOK (nRock σ p s) := by
  unfold nRock
  split
  · rename_i h
    refine ⟨o.1, o.2.1, o.2.2.1, o.2.2.2.1, ⟨?_, fun q hq => ?_⟩, o.2.2.2.2.2.1, o.2.2.2.2.2.2.1, o.2.2.2.2.2.2.2⟩
    · show (sR_ σ ++ [(p, s)]).length ≤ 20
      rw [List.length_append, List.length_singleton]
      omega
    · rcases List.mem_append.mp hq with z | z
      · exact o.2.2.2.2.1.2 q z
      · rw [List.mem_singleton.mp z]; exact ⟨h.1.1, h.1.2, h.2.1.1, h.2.1.2⟩
  · exact o
