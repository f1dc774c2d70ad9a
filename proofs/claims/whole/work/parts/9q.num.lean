/-! the world behind the constructors, as numbered cells -/
def csF (a1 : Nat) (q2 : List Nat) (a3 : Nat) (q4 : List Nat) (a5 : Nat) : List Nat := [a1, q2.getD 0 0, q2.getD 1 0, q2.getD 2 0, q2.getD 3 0, q2.getD 4 0, q2.getD 5 0, q2.getD 6 0, q2.getD 34 0, q2.getD 35 0, q2.getD 36 0, q2.getD 37 0, q2.getD 38 0, q2.getD 39 0, q2.getD 40 0, q2.getD 41 0, q2.getD 42 0, q2.getD 43 0, q2.getD 44 0, q2.getD 45 0, q2.getD 7 0, q2.getD 8 0, q2.getD 9 0, q2.getD 10 0, q2.getD 11 0, q2.getD 12 0, q2.getD 13 0, q2.getD 14 0, q2.getD 15 0, q2.getD 16 0, q2.getD 17 0, q2.getD 18 0, q2.getD 19 0, q2.getD 20 0, q2.getD 21 0, q2.getD 22 0, q2.getD 23 0, q2.getD 24 0, q2.getD 25 0, q2.getD 26 0, q2.getD 27 0, q2.getD 28 0, q2.getD 29 0, q2.getD 30 0, q2.getD 31 0, q2.getD 32 0, q2.getD 33 0, a3, q4.getD 0 0, q4.getD 1 0, q4.getD 2 0, q4.getD 3 0, q4.getD 4 0, q4.getD 5 0, q4.getD 6 0, q4.getD 7 0, q4.getD 8 0, q4.getD 9 0, q4.getD 10 0, q4.getD 11 0, q4.getD 12 0, q4.getD 13 0, q4.getD 14 0, q4.getD 15 0, q4.getD 16 0, q4.getD 17 0, q4.getD 18 0, q4.getD 19 0, q4.getD 20 0, q4.getD 21 0, a5]
def pmL : List Nat := [0, 1, 2, 3, 4, 5, 6, 7, 35, 36, 37, 38, 39, 40, 41, 42, 43, 44, 45, 46, 8, 9, 10, 11, 12, 13, 14, 15, 16, 17, 18, 19, 20, 21, 22, 23, 24, 25, 26, 27, 28, 29, 30, 31, 32, 33, 34, 47, 48, 49, 50, 51, 52, 53, 54, 55, 56, 57, 58, 59, 60, 61, 62, 63, 64, 65, 66, 67, 68, 69, 70]
theorem pm_inj : ∀ i, i < 71 → ∀ j, j < 71 → pmL.getD i 0 = pmL.getD j 0 → i = j := by decide +kernel
def wsF (X0 : Cx) (a1 : Nat) (q2 : List Nat) (a3 : Nat) (q4 : List Nat) (a5 : Nat) : va_W := (wf_X10 X0 a1 q2 ++ wf_X11 X0 a3 q4) ++ [(a5, .inl (X0.2.2.1 2, 1, .inr (.inl (fun _ => 0))))]
/-- the four WISHES as one function -/
def wsG7 (X0 X : Cx) (a1 : Nat) (q2 : List Nat) (a3 : Nat) (q4 : List Nat) (a5 : Nat) : va_W := (wsF X0 a1 q2 a3 q4 a5).set 7 (q2.getD 6 0, .inl (X0.2.2.1 3, 4, .inr (.inr (.inr (.inr (fun i => some (adr X (8 + 3 * i))))))))
theorem P_set {D : va_G} {cl : List vw_C} {ws : va_W} {H : Heap} {k a : Nat} {e e2 : va_E} (hP : va_P D cl ws H) (hk : ws[k]? = some (a, e)) (he : va_at D cl (a, e) H → va_at D cl (a, e2) H) : va_P D cl (ws.set k (a, e2)) H := by
  intro i q hi
  by_cases h : i = k
  · subst h
    rw [List.getElem?_set_self (List.getElem?_eq_some_iff.mp hk).1] at hi
    cases hi
    exact he (hP i _ hk)
  · rw [List.getElem?_set_ne (Ne.symm h)] at hi
    exact hP i q hi
section Numbered
variable {l : Launch} {D : va_G} {ty : Nat → ClassId} {hi : Nat → Nat} {ext : List (Nat × Nat × (Nat → Int))} {a1 a3 a5 : Nat} {q2 q4 : List Nat}
theorem ws_7 : (wsF (mkX l D ty hi ext []) a1 q2 a3 q4 a5)[7]? = some (q2.getD 6 0, .inl (ty 3, 4, .inr (.inr (.inr (.inr (va_up (va_up (va_up (va_up (fun _ => none) 0 (some (q2.getD 34 0))) 1 (some (q2.getD 37 0))) 2 (some (q2.getD 40 0))) 3 (some (q2.getD 43 0)))))))) := rfl
theorem ws_P {H : Heap} (hP : va_P D vwCl (wsF (mkX l D ty hi ext []) a1 q2 a3 q4 a5) H) : va_P D vwCl (wsG7 (mkX l D ty hi ext []) (mkX l D ty hi ext (csF a1 q2 a3 q4 a5)) a1 q2 a3 q4 a5) H := by
  refine P_set hP ws_7 (fun h => ?_)
  have h1 : H[q2.getD 6 0]? = some (vp_cell (ty 3) (4, .inr (.inr (.inr (.inr (va_up (va_up (va_up (va_up (fun _ => none) 0 (some (q2.getD 34 0))) 1 (some (q2.getD 37 0))) 2 (some (q2.getD 40 0))) 3 (some (q2.getD 43 0)))))))) := h
  show H[q2.getD 6 0]? = some (vp_cell (ty 3) (4, .inr (.inr (.inr (.inr (fun i => some (adr (mkX l D ty hi ext (csF a1 q2 a3 q4 a5)) (8 + 3 * i))))))))
  rw [h1]
  congr 1
set_option maxRecDepth 20000 in
theorem ws_at : ∀ (k : Nat) (e : Sh), shp[k]? = some e → (wsG7 (mkX l D ty hi ext []) (mkX l D ty hi ext (csF a1 q2 a3 q4 a5)) a1 q2 a3 q4 a5)[pmL.getD k 0]? = some (adr (mkX l D ty hi ext (csF a1 q2 a3 q4 a5)) k, cel (mkX l D ty hi ext (csF a1 q2 a3 q4 a5)) h00 k e) := by
  intro k e he
  match k, he with
  | 0, he => obtain rfl := Option.some.inj he; rfl
  | 1, he => obtain rfl := Option.some.inj he; rfl
  | 2, he => obtain rfl := Option.some.inj he; rfl
  | 3, he => obtain rfl := Option.some.inj he; rfl
  | 4, he => obtain rfl := Option.some.inj he; rfl
  | 5, he => obtain rfl := Option.some.inj he; rfl
  | 6, he => obtain rfl := Option.some.inj he; rfl
  | 7, he => obtain rfl := Option.some.inj he; rfl
  | 8, he => obtain rfl := Option.some.inj he; rfl
  | 9, he => obtain rfl := Option.some.inj he; rfl
  | 10, he => obtain rfl := Option.some.inj he; rfl
  | 11, he => obtain rfl := Option.some.inj he; rfl
  | 12, he => obtain rfl := Option.some.inj he; rfl
  | 13, he => obtain rfl := Option.some.inj he; rfl
  | 14, he => obtain rfl := Option.some.inj he; rfl
  | 15, he => obtain rfl := Option.some.inj he; rfl
  | 16, he => obtain rfl := Option.some.inj he; rfl
  | 17, he => obtain rfl := Option.some.inj he; rfl
  | 18, he => obtain rfl := Option.some.inj he; rfl
  | 19, he => obtain rfl := Option.some.inj he; rfl
  | 20, he => obtain rfl := Option.some.inj he; rfl
  | 21, he => obtain rfl := Option.some.inj he; rfl
  | 22, he => obtain rfl := Option.some.inj he; rfl
  | 23, he => obtain rfl := Option.some.inj he; rfl
  | 24, he => obtain rfl := Option.some.inj he; rfl
  | 25, he => obtain rfl := Option.some.inj he; rfl
  | 26, he => obtain rfl := Option.some.inj he; rfl
  | 27, he => obtain rfl := Option.some.inj he; rfl
  | 28, he => obtain rfl := Option.some.inj he; rfl
  | 29, he => obtain rfl := Option.some.inj he; rfl
  | 30, he => obtain rfl := Option.some.inj he; rfl
  | 31, he => obtain rfl := Option.some.inj he; rfl
  | 32, he => obtain rfl := Option.some.inj he; rfl
  | 33, he => obtain rfl := Option.some.inj he; rfl
  | 34, he => obtain rfl := Option.some.inj he; rfl
  | 35, he => obtain rfl := Option.some.inj he; rfl
  | 36, he => obtain rfl := Option.some.inj he; rfl
  | 37, he => obtain rfl := Option.some.inj he; rfl
  | 38, he => obtain rfl := Option.some.inj he; rfl
  | 39, he => obtain rfl := Option.some.inj he; rfl
  | 40, he => obtain rfl := Option.some.inj he; rfl
  | 41, he => obtain rfl := Option.some.inj he; rfl
  | 42, he => obtain rfl := Option.some.inj he; rfl
  | 43, he => obtain rfl := Option.some.inj he; rfl
  | 44, he => obtain rfl := Option.some.inj he; rfl
  | 45, he => obtain rfl := Option.some.inj he; rfl
  | 46, he => obtain rfl := Option.some.inj he; rfl
  | 47, he => obtain rfl := Option.some.inj he; rfl
  | 48, he => obtain rfl := Option.some.inj he; rfl
  | 49, he => obtain rfl := Option.some.inj he; rfl
  | 50, he => obtain rfl := Option.some.inj he; rfl
  | 51, he => obtain rfl := Option.some.inj he; rfl
  | 52, he => obtain rfl := Option.some.inj he; rfl
  | 53, he => obtain rfl := Option.some.inj he; rfl
  | 54, he => obtain rfl := Option.some.inj he; rfl
  | 55, he => obtain rfl := Option.some.inj he; rfl
  | 56, he => obtain rfl := Option.some.inj he; rfl
  | 57, he => obtain rfl := Option.some.inj he; rfl
  | 58, he => obtain rfl := Option.some.inj he; rfl
  | 59, he => obtain rfl := Option.some.inj he; rfl
  | 60, he => obtain rfl := Option.some.inj he; rfl
  | 61, he => obtain rfl := Option.some.inj he; rfl
  | 62, he => obtain rfl := Option.some.inj he; rfl
  | 63, he => obtain rfl := Option.some.inj he; rfl
  | 64, he => obtain rfl := Option.some.inj he; rfl
  | 65, he => obtain rfl := Option.some.inj he; rfl
  | 66, he => obtain rfl := Option.some.inj he; rfl
  | 67, he => obtain rfl := Option.some.inj he; rfl
  | 68, he => obtain rfl := Option.some.inj he; rfl
  | 69, he => obtain rfl := Option.some.inj he; rfl
  | 70, he => obtain rfl := Option.some.inj he; rfl
  | k + 71, he => exact absurd (shp_lt he) (by omega)
theorem ws_wld {H : Heap} (hP : va_P D vwCl (wsF (mkX l D ty hi ext []) a1 q2 a3 q4 a5) H) : va_P D vwCl (wld (mkX l D ty hi ext (csF a1 q2 a3 q4 a5)) h00) H := by
  intro k q hk
  obtain ⟨e, he, rfl⟩ := wld_inv hk
  exact ws_P hP _ _ (ws_at k e he)
theorem ws_inj {A : Nat → Prop} (hD : va_D A (wsF (mkX l D ty hi ext []) a1 q2 a3 q4 a5)) : inj (mkX l D ty hi ext (csF a1 q2 a3 q4 a5)) ∧ ∀ k, k < 71 → A (adr (mkX l D ty hi ext (csF a1 q2 a3 q4 a5)) k) := by
  have hD2 : va_D A (wsG7 (mkX l D ty hi ext []) (mkX l D ty hi ext (csF a1 q2 a3 q4 a5)) a1 q2 a3 q4 a5) := va_D.set hD ws_7
  have hs : ∀ k, k < 71 → ∃ e, shp[k]? = some e := fun k hk => ⟨_, List.getElem?_eq_getElem (by rw [shp_length]; exact hk)⟩
  refine ⟨fun i j h1 h2 e => ?_, fun k hk => ?_⟩
  · obtain ⟨e1, r1⟩ := hs i h1
    obtain ⟨e2, r2⟩ := hs j h2
    exact pm_inj i h1 j h2 (hD2.1 _ _ _ _ (ws_at i e1 r1) (ws_at j e2 r2) e)
  · obtain ⟨e1, r1⟩ := hs k hk
    exact hD2.2 _ _ (ws_at k e1 r1)
end Numbered
