/-! PLANE: all heights tried, against what is reckoned -/
def tri (x : Int) : Prop := x = -1 ∨ x = 0 ∨ x = 1
theorem tri_slp (P A t q : Int) : tri (slp P A t q) := by have := slp_b P A t q; unfold tri; omega
theorem one_ok {x y a b H : Int} (hx : tri x) (hy : tri y) (nz : ¬ (a = 0 ∧ b = 0)) : oneB x y a b H = true ↔ ∃ v, (0 ≤ v ∧ v ≤ 99) ∧ a + x * (v - H) = 0 ∧ b + y * (v - H) = 0 := by
  unfold oneB
  rw [decide_eq_true_iff]
  constructor
  · rintro ⟨h1, h2, h3, h4⟩
    refine ⟨H + chA x y a b, ⟨h3, h4⟩, ?_, ?_⟩
    · rw [show H + chA x y a b - H = chA x y a b by omega]; omega
    · rw [show H + chA x y a b - H = chA x y a b by omega]; omega
  · rintro ⟨v, hv, h1, h2⟩
    have e : chA x y a b = v - H := by
      unfold chA
      rcases hx with rfl | rfl | rfl
      · rw [if_neg (by decide)]; omega
      · rw [if_pos rfl]
        rcases hy with rfl | rfl | rfl <;> omega
      · rw [if_neg (by decide)]; omega
    rw [e]
    refine ⟨by omega, by omega, by omega, by omega⟩
theorem par_ok {x y u w : Int} (hx : tri x) (hy : tri y) (hu : tri u) (hw : tri w) (hc : x * w - u * y = 0) (n1 : ¬ (x = 0 ∧ y = 0)) (n2 : ¬ (u = 0 ∧ w = 0)) (n3 : ¬ (x = u ∧ y = w)) : u = -x ∧ w = -y := by
  rcases hx with rfl | rfl | rfl <;> rcases hy with rfl | rfl | rfl <;> rcases hu with rfl | rfl | rfl <;> rcases hw with rfl | rfl | rfl <;> omega
theorem cr_1 {x y u w a b d e : Int} (hx : tri x) (hy : tri y) (hu : tri u) (hw : tri w) (h1 : a + x * d + u * e = 0) (h2 : b + y * d + w * e = 0) : u * b - a * w = (x * w - u * y) * d ∧ a * y - x * b = (x * w - u * y) * e := by
  rcases hx with rfl | rfl | rfl <;> rcases hy with rfl | rfl | rfl <;> rcases hu with rfl | rfl | rfl <;> rcases hw with rfl | rfl | rfl <;> omega
theorem ch_ok {x y a b D : Int} (hx : tri x) (hy : tri y) (n1 : ¬ (x = 0 ∧ y = 0)) (h1 : a + x * D = 0) (h2 : b + y * D = 0) : chA x y a b = D := by
  unfold chA
  rcases hx with rfl | rfl | rfl
  · rw [if_neg (by decide)]; omega
  · rw [if_pos rfl]
    rcases hy with rfl | rfl | rfl <;> omega
  · rw [if_neg (by decide)]; omega
theorem two_ok {x y u w a b H K : Int} (hx : tri x) (hy : tri y) (hu : tri u) (hw : tri w) (n1 : ¬ ∃ v, (0 ≤ v ∧ v ≤ 99) ∧ a + x * (v - H) = 0 ∧ b + y * (v - H) = 0) (n2 : ¬ ∃ v, (0 ≤ v ∧ v ≤ 99) ∧ a + u * (v - K) = 0 ∧ b + w * (v - K) = 0) :
    twB x y u w a b H K = true ↔ ∃ v1, (0 ≤ v1 ∧ v1 ≤ 99) ∧ ∃ v2, (0 ≤ v2 ∧ v2 ≤ 99) ∧ a + x * (v1 - H) + u * (v2 - K) = 0 ∧ b + y * (v1 - H) + w * (v2 - K) = 0 := by
  unfold twB
  rw [Bool.and_eq_true, decide_eq_true_iff]
  constructor
  · rintro ⟨hn, ht⟩
    by_cases hc : x * w - u * y = 0
    · rw [if_pos hc] at ht
      unfold alB at ht
      rw [decide_eq_true_iff] at ht
      obtain ⟨h1, h2, h3⟩ := ht
      generalize chA x y a b = D at h1 h2 h3
      by_cases ha : x = u ∧ y = w
      · rw [if_pos ha] at h3
        obtain ⟨rfl, rfl⟩ := ha
        obtain ⟨d1, hd1⟩ : ∃ d1, d1 = max (-H) (D - (99 - K)) := ⟨_, rfl⟩
        refine ⟨H + d1, by omega, K + (D - d1), by omega, ?_, ?_⟩
        · have e : x * (H + d1 - H) + x * (K + (D - d1) - K) = x * D := by rw [← Int.mul_add]; congr 1; omega
          omega
        · have e : y * (H + d1 - H) + y * (K + (D - d1) - K) = y * D := by rw [← Int.mul_add]; congr 1; omega
          omega
      · rw [if_neg ha] at h3
        obtain ⟨rfl, rfl⟩ := par_ok hx hy hu hw hc (fun q => hn (Or.inl q)) (fun q => hn (Or.inr q)) ha
        obtain ⟨d1, hd1⟩ : ∃ d1, d1 = max (-H) (D - K) := ⟨_, rfl⟩
        refine ⟨H + d1, by omega, K + (d1 - D), by omega, ?_, ?_⟩
        · have e : x * (H + d1 - H) + -x * (K + (d1 - D) - K) = x * D := by rw [Int.neg_mul, ← Int.sub_eq_add_neg, ← Int.mul_sub]; congr 1; omega
          omega
        · have e : y * (H + d1 - H) + -y * (K + (d1 - D) - K) = y * D := by rw [Int.neg_mul, ← Int.sub_eq_add_neg, ← Int.mul_sub]; congr 1; omega
          omega
    · rw [if_neg hc, decide_eq_true_iff] at ht
      obtain ⟨h1, h2, h3, h4⟩ := ht
      refine ⟨_, h3, _, h4, ?_, ?_⟩
      · rw [show ∀ z : Int, H + z - H = z by intro z; omega, show ∀ z : Int, K + z - K = z by intro z; omega]; omega
      · rw [show ∀ z : Int, H + z - H = z by intro z; omega, show ∀ z : Int, K + z - K = z by intro z; omega]; omega
  · rintro ⟨v1, hv1, v2, hv2, h1, h2⟩
    have z1 : ¬ (x = 0 ∧ y = 0) := fun ⟨q1, q2⟩ => n2 ⟨v2, hv2, by rw [q1] at h1; omega, by rw [q2] at h2; omega⟩
    have z2 : ¬ (u = 0 ∧ w = 0) := fun ⟨q1, q2⟩ => n1 ⟨v1, hv1, by rw [q1] at h1; omega, by rw [q2] at h2; omega⟩
    refine ⟨fun q => q.elim z1 z2, ?_⟩
    by_cases hc : x * w - u * y = 0
    · rw [if_pos hc]
      unfold alB
      rw [decide_eq_true_iff]
      by_cases ha : x = u ∧ y = w
      · rw [if_pos ha]
        obtain ⟨rfl, rfl⟩ := ha
        have e1 : x * (v1 - H) + x * (v2 - K) = x * (v1 - H + (v2 - K)) := (Int.mul_add _ _ _).symm
        have e2 : y * (v1 - H) + y * (v2 - K) = y * (v1 - H + (v2 - K)) := (Int.mul_add _ _ _).symm
        have e := ch_ok (a := a) (b := b) (D := v1 - H + (v2 - K)) hx hy z1 (by omega) (by omega)
        rw [e]
        refine ⟨by omega, by omega, by omega, by omega⟩
      · rw [if_neg ha]
        obtain ⟨rfl, rfl⟩ := par_ok hx hy hu hw hc z1 z2 ha
        have e1 : x * (v1 - H) + -x * (v2 - K) = x * (v1 - H - (v2 - K)) := by rw [Int.neg_mul, ← Int.sub_eq_add_neg, ← Int.mul_sub]
        have e2 : y * (v1 - H) + -y * (v2 - K) = y * (v1 - H - (v2 - K)) := by rw [Int.neg_mul, ← Int.sub_eq_add_neg, ← Int.mul_sub]
        have e := ch_ok (a := a) (b := b) (D := v1 - H - (v2 - K)) hx hy z1 (by omega) (by omega)
        rw [e]
        refine ⟨by omega, by omega, by omega, by omega⟩
    · rw [if_neg hc, decide_eq_true_iff]
      obtain ⟨c1, c2⟩ := cr_1 hx hy hu hw h1 h2
      rw [c1, c2, Int.mul_tdiv_cancel_left _ hc, Int.mul_tdiv_cancel_left _ hc]
      refine ⟨by omega, by omega, by omega, by omega⟩
theorem any_ok {c : Int → Bool} : ∀ {n : Nat} {q : Int}, anyF c n q = true ↔ ∃ v, (q ≤ v ∧ v < q + n) ∧ c v = true
  | 0, q => by
    constructor
    · intro h; cases h
    · rintro ⟨v, h, -⟩; omega
  | n + 1, q => by
    rw [anyF, Bool.or_eq_true, any_ok (n := n)]
    constructor
    · rintro (h | ⟨v, h1, h2⟩)
      · exact ⟨q, by omega, h⟩
      · exact ⟨v, by omega, h2⟩
    · rintro ⟨v, h1, h2⟩
      by_cases e : v = q
      · left; rw [← e]; exact h2
      · right; exact ⟨v, by omega, h2⟩
/-- what canPlane answers: so many points may still be told otherwise, from one on -/
def zrB (G : Gdn) (p : Int) : Bool := decide (gapF G p = 0 ∧ gapF G (nx (gP G) p) = 0)
def cpB (p : Int) : Nat → Int → Gdn → Bool
  | 0, _, G => zrB G p
  | l + 1, f, G => zrB G p || anyF (fun q => anyF (fun v => cpB p l (q + 1) (gEH G q v)) 100 0) (gP G - f).toNat f
theorem plane_ok {G : Gdn} (g : GB2 G) {p : Int} (hp : 0 ≤ p ∧ p < gP G) :
    (if zrB G p = true then (0 : Int) else if cpB p 1 0 G = true then 1 else if cpB p 2 0 G = true then 2 else -1) = (if gapF G p = 0 ∧ gapF G (nx (gP G) p) = 0 then 0 else if anyF (p1F G p) (gP G).toNat 0 = true then 1 else if anyF (p2A G p) (gP G).toNat 0 = true then 2 else -1) := by
  have hP := g.1
  have hA := g.2.1
  have nb : 0 ≤ nx (gP G) p ∧ nx (gP G) p < gP G := arnd_b (by omega)
  by_cases hz : gapF G p = 0 ∧ gapF G (nx (gP G) p) = 0
  · rw [if_pos (by unfold zrB; rw [decide_eq_true_iff]; exact hz), if_pos hz]
  · have hz1 : ¬ zrB G p = true := by unfold zrB; rw [decide_eq_true_iff]; exact hz
    rw [if_neg hz1, if_neg hz]
    have zr1 : ∀ q v, zrB (gEH G q v) p = true ↔ gapF G p + slp (gP G) (gA G) p q * (v - gH G q) = 0 ∧ gapF G (nx (gP G) p) + slp (gP G) (gA G) (nx (gP G) p) q * (v - gH G q) = 0 := by
      intro q v
      unfold zrB
      rw [decide_eq_true_iff]
      show gapF (gEH G q v) p = 0 ∧ gapF (gEH G q v) (nx (gP G) p) = 0 ↔ _
      rw [gap_H hP.2.2 hA hp, gap_H hP.2.2 hA nb, Int.mul_sub, Int.mul_sub]
      constructor <;> (intro h; omega)
    have s1 : ∀ q, p1F G p q = true ↔ ∃ v, (0 ≤ v ∧ v ≤ 99) ∧ zrB (gEH G q v) p = true := by
      intro q
      unfold p1F
      rw [one_ok (tri_slp _ _ _ _) (tri_slp _ _ _ _) hz]
      constructor
      · rintro ⟨v, h1, h2⟩; exact ⟨v, h1, (zr1 q v).mpr h2⟩
      · rintro ⟨v, h1, h2⟩; exact ⟨v, h1, (zr1 q v).mp h2⟩
    have c1 : cpB p 1 0 G = true ↔ anyF (p1F G p) (gP G).toNat 0 = true := by
      rw [cpB, Bool.or_eq_true, any_ok, any_ok, Int.sub_zero]
      constructor
      · rintro (h | ⟨q, h1, h2⟩)
        · exact absurd h hz1
        · rw [any_ok] at h2
          obtain ⟨v, v1, v2⟩ := h2
          exact ⟨q, h1, (s1 q).mpr ⟨v, by omega, v2⟩⟩
      · rintro ⟨q, h1, h2⟩
        obtain ⟨v, v1, v2⟩ := (s1 q).mp h2
        exact Or.inr ⟨q, h1, any_ok.mpr ⟨v, by omega, v2⟩⟩
    by_cases h1 : anyF (p1F G p) (gP G).toNat 0 = true
    · rw [if_pos (c1.mpr h1), if_pos h1]
    · rw [if_neg (fun q => h1 (c1.mp q)), if_neg h1]
      have no1 : ∀ q, 0 ≤ q → q < gP G → ¬ ∃ v, (0 ≤ v ∧ v ≤ 99) ∧ gapF G p + slp (gP G) (gA G) p q * (v - gH G q) = 0 ∧ gapF G (nx (gP G) p) + slp (gP G) (gA G) (nx (gP G) p) q * (v - gH G q) = 0 := by
        rintro q q0 q1 ⟨v, v1, v2⟩
        exact h1 (any_ok.mpr ⟨q, by omega, (s1 q).mpr ⟨v, v1, (zr1 q v).mpr v2⟩⟩)
      have zr2 : ∀ q v s w, s ≠ q → (zrB (gEH (gEH G q v) s w) p = true ↔ gapF G p + slp (gP G) (gA G) p q * (v - gH G q) + slp (gP G) (gA G) p s * (w - gH G s) = 0 ∧ gapF G (nx (gP G) p) + slp (gP G) (gA G) (nx (gP G) p) q * (v - gH G q) + slp (gP G) (gA G) (nx (gP G) p) s * (w - gH G s) = 0) := by
        intro q v s w hs
        unfold zrB
        rw [decide_eq_true_iff]
        have e1 := gap_H (G := gEH G q v) (q := s) (v := w) (p := p) hP.2.2 hA hp
        have e2 := gap_H (G := gEH G q v) (q := s) (v := w) (p := nx (gP G) p) hP.2.2 hA nb
        have eh : gH (gEH G q v) s = gH G s := by show upv (gH G) q v s = _; unfold upv; rw [if_neg hs]
        show gapF (gEH (gEH G q v) s w) p = 0 ∧ gapF (gEH (gEH G q v) s w) (nx (gP G) p) = 0 ↔ _
        rw [e1, e2, gap_H hP.2.2 hA hp, gap_H hP.2.2 hA nb, eh]
        show _ - slp (gP G) (gA G) p s * gH G s + slp (gP G) (gA G) p s * w = 0 ∧ _ - slp (gP G) (gA G) (nx (gP G) p) s * gH G s + slp (gP G) (gA G) (nx (gP G) p) s * w = 0 ↔ _
        rw [Int.mul_sub, Int.mul_sub, Int.mul_sub, Int.mul_sub]
        constructor <;> (intro h; omega)
      have s2 : ∀ q s, 0 ≤ q → q < s → s < gP G → (p2F G p q s = true ↔ ∃ v, (0 ≤ v ∧ v ≤ 99) ∧ ∃ w, (0 ≤ w ∧ w ≤ 99) ∧ zrB (gEH (gEH G q v) s w) p = true) := by
        intro q s q0 qs s1
        unfold p2F
        rw [two_ok (tri_slp _ _ _ _) (tri_slp _ _ _ _) (tri_slp _ _ _ _) (tri_slp _ _ _ _) (no1 q q0 (by omega)) (no1 s (by omega) s1)]
        constructor
        · rintro ⟨v, v1, w, w1, h2⟩; exact ⟨v, v1, w, w1, (zr2 q v s w (by omega)).mpr h2⟩
        · rintro ⟨v, v1, w, w1, h2⟩; exact ⟨v, v1, w, w1, (zr2 q v s w (by omega)).mp h2⟩
      have c2 : cpB p 2 0 G = true ↔ anyF (p2A G p) (gP G).toNat 0 = true := by
        rw [cpB, Bool.or_eq_true, any_ok, any_ok, Int.sub_zero]
        constructor
        · rintro (h | ⟨q, h2, h3⟩)
          · exact absurd h hz1
          · rw [any_ok] at h3
            obtain ⟨v, v1, v2⟩ := h3
            rw [cpB, Bool.or_eq_true] at v2
            rcases v2 with v2 | v2
            · exact absurd ⟨v, by omega, (zr1 q v).mp v2⟩ (no1 q (by omega) (by omega))
            · rw [any_ok] at v2
              obtain ⟨s, t1, t2⟩ := v2
              rw [any_ok] at t2
              obtain ⟨w, w1, w2⟩ := t2
              have t1 : q + 1 ≤ s ∧ s < q + 1 + ((gP G - (q + 1)).toNat : Int) := t1
              refine ⟨q, h2, ?_⟩
              unfold p2A
              rw [any_ok]
              exact ⟨s, by omega, (s2 q s (by omega) (by omega) (by omega)).mpr ⟨v, by omega, w, by omega, w2⟩⟩
        · rintro ⟨q, h2, h3⟩
          unfold p2A at h3
          rw [any_ok] at h3
          obtain ⟨s, t1, t2⟩ := h3
          obtain ⟨v, v1, w, w1, z⟩ := (s2 q s (by omega) (by omega) (by omega)).mp t2
          refine Or.inr ⟨q, h2, any_ok.mpr ⟨v, by omega, ?_⟩⟩
          rw [cpB, Bool.or_eq_true]
          right
          rw [any_ok]
          refine ⟨s, ?_, any_ok.mpr ⟨w, by omega, z⟩⟩
          show q + 1 ≤ s ∧ s < q + 1 + ((gP G - (q + 1)).toNat : Int)
          omega
      by_cases h2 : anyF (p2A G p) (gP G).toNat 0 = true
      · rw [if_pos (c2.mpr h2), if_pos h2]
      · rw [if_neg (fun q => h2 (c2.mp q)), if_neg h2]
