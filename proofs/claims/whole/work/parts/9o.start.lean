/-! the start: what the statement gives -/
abbrev rA (s : State) : Nat → Prop := fun q => s.heap.size ≤ q
theorem rA_no (s : State) : ∀ a : Nat, a < s.heap.size → ¬ rA s a := fun _ h q => absurd q (Nat.not_le.mpr h)
def mkX (l : Launch) (D : va_G) (ty : Nat → ClassId) (hi : Nat → Nat) (ext : List (Nat × Nat × (Nat → Int))) (cs : List Nat) : Cx := (l, D, ty, (fun k => if k < 71 then cs.getD k 0 else hi k), ext)
theorem adr_hi {l : Launch} {D : va_G} {ty : Nat → ClassId} {hi : Nat → Nat} {ext : List (Nat × Nat × (Nat → Int))} {cs : List Nat} {k : Nat} (h : 71 ≤ k) : adr (mkX l D ty hi ext cs) k = hi k := if_neg (by omega)
theorem EXT.narrow {X : Cx} {A B : Nat → Prop} {U : State} {H : Heap} (h : EXT X A U H) (hAB : ∀ q, B q → A q) : EXT X B U H := by
  obtain ⟨h1, h2, h3, h4, h5, h6, h7, h8, h9, h10⟩ := h
  exact ⟨fun q hm => (h1 q hm).narrow hAB, fun z hz => (h2 z hz).narrow hAB, h3.narrow hAB, h4.narrow hAB, h5, h6, h7, h8.narrow hAB, h9.narrow hAB, h10.narrow hAB⟩
/-- the cells' own addresses don't matter to what is only read -/
theorem EXT.to {l : Launch} {D : va_G} {ty : Nat → ClassId} {hi : Nat → Nat} {ext : List (Nat × Nat × (Nat → Int))} {cs cs2 : List Nat} {A : Nat → Prop} {U : State} {H : Heap} (he : ∀ q ∈ ext, 71 ≤ q.1) (h : EXT (mkX l D ty hi ext cs) A U H) : EXT (mkX l D ty hi ext cs2) A U H := by
  obtain ⟨h1, h2, h3, h4, h5, h6, h7, h8, h9, h10⟩ := h
  have ha : ∀ k, 71 ≤ k → adr (mkX l D ty hi ext cs2) k = adr (mkX l D ty hi ext cs) k := fun k hk => (adr_hi hk).trans (adr_hi hk).symm
  have e1 : (fun i => adr (mkX l D ty hi ext cs2) (110 + i)) = fun i => adr (mkX l D ty hi ext cs) (110 + i) := funext fun i => ha _ (by omega)
  have e2 : (fun i => adr (mkX l D ty hi ext cs2) (120 + i)) = fun i => adr (mkX l D ty hi ext cs) (120 + i) := funext fun i => ha _ (by omega)
  have s1 : ∀ z ∈ stL, 71 ≤ z.2 := by decide
  have s2 : ∀ z ∈ srL, 71 ≤ z.2.2.2 := by decide
  refine ⟨fun q hm => ?_, fun z hz => ?_, h3, ?_, fun z hz => ?_, h6, h7, h8, h9, h10⟩
  · rw [ha q.1 (he q hm)]; exact h1 q hm
  · rw [ha z.2 (s1 z hz)]; exact h2 z hz
  · rw [e1, e2]; exact h4
  · rw [ha z.2.2.2 (s2 z hz)]; exact h5 z hz
theorem MN.inst {own : String} {idx ci N : Nat} {fs : List Value} {q : vw_C} (m : MN own idx ci fs N) (hq : vwCl[ci]? = some q) : Cond.instantiable q.1 q.2.2 ∈ wsG := by
  obtain ⟨q2, ty, h1, -, -, h2, -⟩ := m
  rw [h1] at hq
  cases hq
  exact h2
theorem cls_inst {ci : Nat} {q : vw_C} (hq : vwCl[ci]? = some q) : Cond.instantiable q.1 q.2.2 ∈ wsG := by
  match ci, hq with
  | 0, h => exact mnX0.inst h
  | 1, h => exact mnX1.inst h
  | 2, h => exact mnX2.inst h
  | 3, h => exact mnX3.inst h
  | 4, h => exact mnX4.inst h
  | 5, h => exact mnX5.inst h
  | 6, h => exact mnX6.inst h
  | 7, h => exact mnX7.inst h
  | 8, h => exact mnX8.inst h
  | 9, h => exact mnX9.inst h
  | 10, h => exact mnX10.inst h
  | 11, h => exact mnX11.inst h
  | k + 12, h => simp [vwCl] at h
theorem kn_D {s : State} {args : Array Value} (hts : ∀ w ∈ lw_tbl, w.before args s = true) : ∃ D : va_G, ∀ (ci : Nat) (q : vw_C), vwCl[ci]? = some q → u_Kn s q.1 q.2.1 q.2.2 (D.1 ci) (D.2 ci) := by
  have h0 : ∀ ci : Nat, ∃ z : ClassId × (Nat → Nat), ∀ q, vwCl[ci]? = some q → u_Kn s q.1 q.2.1 q.2.2 z.1 z.2 := by
    intro ci
    cases hq : vwCl[ci]? with
    | none => exact ⟨(0, fun _ => 0), fun q h => by cases h⟩
    | some q =>
      obtain ⟨cC, iS, hK⟩ := u_known (ws := wsG) (args := args) (n := q.2.2) (fun w hw => hts w (List.mem_filter.mp hw).1) (cls_in hq) (hts _ (List.mem_filter.mp (cls_inst hq)).1)
      exact ⟨(cC, iS), fun q' h => by cases h; exact hK⟩
  obtain ⟨z, hz⟩ := Classical.axiomOfChoice h0
  exact ⟨(fun ci => (z ci).1, fun ci => (z ci).2), fun ci q hq => hz ci q hq⟩
theorem kn_ac {s : State} {args : Array Value} {ty : FieldType} (h : (Cond.arrayClass ty).before args s = true) (hne : ∀ C, ty ≠ .object C) : ∃ c : ClassId, ArrOfT s c ty ∧ va_RA s c ty := by
  obtain ⟨c, k, comp, h1, h2, h3⟩ := Cond.arrayClass_spec h
  refine ⟨c, fun n z => ⟨fun k h => (by cases h), k, h2, comp, h3⟩, ?_⟩
  cases ty <;> first | exact h1 | exact absurd rfl (hne _)
theorem kn_ao {s : State} {args : Array Value} {C : String} (h : (Cond.arrayOver (.object C)).before args s = true) : ∃ c : ClassId, ArrOfT s c (.object C) ∧ va_RA s c (.object C) := by
  obtain ⟨comp, c, k, h1, -, h3, h4, h5⟩ := Cond.arrayOver_spec h
  exact ⟨c, fun n z => ⟨fun k h => (by cases h), k, h3, comp, h4⟩, k, comp, h3, h4, h1, h5⟩
theorem kao : Cond.arrayOver (.object RX8) ∈ lw_tbl := List.mem_of_getElem? (i := 159) (by decide +kernel)
theorem kn_K {s : State} {args : Array Value} (hts : ∀ w ∈ lw_tbl, w.before args s = true) : ∃ (D : va_G) (ty : Nat → ClassId), va_K D vwCl [(ty 0, .int), (ty 1, .byte), (ty 2, .long), (ty 3, .object RX8)] s := by
  obtain ⟨D, hD⟩ := kn_D hts
  obtain ⟨c0, h0⟩ := kn_ac (hts _ (List.mem_filter.mp karI).1) (fun _ h => by cases h)
  obtain ⟨c1, h1⟩ := kn_ac (hts _ (List.mem_filter.mp karB).1) (fun _ h => by cases h)
  obtain ⟨c2, h2⟩ := kn_ac (hts _ (List.mem_filter.mp karL).1) (fun _ h => by cases h)
  obtain ⟨c3, h3⟩ := kn_ao (hts _ kao)
  refine ⟨D, fun k => [c0, c1, c2, c3].getD k 0, hD, fun k q hk => ?_⟩
  match k, hk with
  | 0, hk => cases hk; exact h0
  | 1, hk => cases hk; exact h1
  | 2, hk => cases hk; exact h2
  | 3, hk => cases hk; exact h3
  | k + 4, hk => simp at hk
def extL (L : Nat) (xs : Nat → Int32) : List (Nat × Nat × (Nat → Int)) := [(100, L, fun j => (xs j).toInt), (101, 5, fun j : Nat => tLo j), (102, 5, fun j : Nat => tHi j), (103, 2, fun j : Nat => cLo j), (104, 2, fun j : Nat => cHi j)]
theorem iI_back (x : Int32) : iI x.toInt = x := Int32.ofInt_toInt x
theorem sc_T {s : State} {b L : Nat} {xs : Nat → Int32} (hX : va_X b L xs s s.heap) (hbl : b < s.heap.size) : va_T .int b L (fun j => .int (iI (xs j).toInt)) (rA s) s s.heap := by
  obtain ⟨scr, h1, h2, h3, h4, h5⟩ := hX
  exact ⟨scr, h1, h2, h3, Nat.le_of_eq h4.symm, by rw [h4], fun j hj => by show scr.slots[j]? = some (Value.int (iI (xs j).toInt)); rw [iI_back]; exact h5 j hj, rA_no s b hbl⟩
section Given
variable {s : State} {args : Array Value}
theorem gv_TL (fl : ∀ c ∈ flatC (Jvm.Cond.and given_1 narrow_1), c.before args s = true) : ∃ t : Nat, (Term.static RX4 "TABLE_LEAST" "[I").eval args s none [] s = some (.ref t) ∧ va_T .int t 5 (fun j => .int (iI (tLo j))) (rA s) s s.heap :=
  va_Tof (by decide) (fl (.arrayOf (.static RX4 "TABLE_LEAST" "[I") .int) (by decide +kernel)) (va_eqt (fl (.eq (.length (.static RX4 "TABLE_LEAST" "[I")) (.int 5)) (by decide +kernel))) (fun j hj => by
    rcases (show j = 0 ∨ j = 1 ∨ j = 2 ∨ j = 3 ∨ j = 4 by omega) with rfl | rfl | rfl | rfl | rfl
    · exact va_eqt (fl (.eq (.elem (.static RX4 "TABLE_LEAST" "[I") (.int 0)) (.int 1)) (by decide +kernel))
    · exact va_eqt (fl (.eq (.elem (.static RX4 "TABLE_LEAST" "[I") (.int 1)) (.int 0)) (by decide +kernel))
    · exact va_eqt (fl (.eq (.elem (.static RX4 "TABLE_LEAST" "[I") (.int 2)) (.int 0)) (by decide +kernel))
    · exact va_eqt (fl (.eq (.elem (.static RX4 "TABLE_LEAST" "[I") (.int 3)) (.int 0)) (by decide +kernel))
    · exact va_eqt (fl (.eq (.elem (.static RX4 "TABLE_LEAST" "[I") (.int 4)) (.int 0)) (by decide +kernel))) (rA_no s)
theorem gv_TM (fl : ∀ c ∈ flatC (Jvm.Cond.and given_1 narrow_1), c.before args s = true) : ∃ t : Nat, (Term.static RX4 "TABLE_MOST" "[I").eval args s none [] s = some (.ref t) ∧ va_T .int t 5 (fun j => .int (iI (tHi j))) (rA s) s s.heap :=
  va_Tof (by decide) (fl (.arrayOf (.static RX4 "TABLE_MOST" "[I") .int) (by decide +kernel)) (va_eqt (fl (.eq (.length (.static RX4 "TABLE_MOST" "[I")) (.int 5)) (by decide +kernel))) (fun j hj => by
    rcases (show j = 0 ∨ j = 1 ∨ j = 2 ∨ j = 3 ∨ j = 4 by omega) with rfl | rfl | rfl | rfl | rfl
    · exact va_eqt (fl (.eq (.elem (.static RX4 "TABLE_MOST" "[I") (.int 0)) (.int 11)) (by decide +kernel))
    · exact va_eqt (fl (.eq (.elem (.static RX4 "TABLE_MOST" "[I") (.int 1)) (.int 99)) (by decide +kernel))
    · exact va_eqt (fl (.eq (.elem (.static RX4 "TABLE_MOST" "[I") (.int 2)) (.int 99)) (by decide +kernel))
    · exact va_eqt (fl (.eq (.elem (.static RX4 "TABLE_MOST" "[I") (.int 3)) (.int 99)) (by decide +kernel))
    · exact va_eqt (fl (.eq (.elem (.static RX4 "TABLE_MOST" "[I") (.int 4)) (.int 99)) (by decide +kernel))) (rA_no s)
theorem gv_CL (fl : ∀ c ∈ flatC (Jvm.Cond.and given_1 narrow_1), c.before args s = true) : ∃ t : Nat, (Term.static RX4 "CARD_LEAST" "[I").eval args s none [] s = some (.ref t) ∧ va_T .int t 2 (fun j => .int (iI (cLo j))) (rA s) s s.heap :=
  va_Tof (by decide) (fl (.arrayOf (.static RX4 "CARD_LEAST" "[I") .int) (by decide +kernel)) (va_eqt (fl (.eq (.length (.static RX4 "CARD_LEAST" "[I")) (.int 2)) (by decide +kernel))) (fun j hj => by
    rcases (show j = 0 ∨ j = 1 by omega) with rfl | rfl
    · exact va_eqt (fl (.eq (.elem (.static RX4 "CARD_LEAST" "[I") (.int 0)) (.int 1)) (by decide +kernel))
    · exact va_eqt (fl (.eq (.elem (.static RX4 "CARD_LEAST" "[I") (.int 1)) (.int 0)) (by decide +kernel))) (rA_no s)
theorem gv_CM (fl : ∀ c ∈ flatC (Jvm.Cond.and given_1 narrow_1), c.before args s = true) : ∃ t : Nat, (Term.static RX4 "CARD_MOST" "[I").eval args s none [] s = some (.ref t) ∧ va_T .int t 2 (fun j => .int (iI (cHi j))) (rA s) s s.heap :=
  va_Tof (by decide) (fl (.arrayOf (.static RX4 "CARD_MOST" "[I") .int) (by decide +kernel)) (va_eqt (fl (.eq (.length (.static RX4 "CARD_MOST" "[I")) (.int 2)) (by decide +kernel))) (fun j hj => by
    rcases (show j = 0 ∨ j = 1 by omega) with rfl | rfl
    · exact va_eqt (fl (.eq (.elem (.static RX4 "CARD_MOST" "[I") (.int 0)) (.int 20)) (by decide +kernel))
    · exact va_eqt (fl (.eq (.elem (.static RX4 "CARD_MOST" "[I") (.int 1)) (.int 9)) (by decide +kernel))) (rA_no s)
def tmS : Nat → Term
  | 0 => .string RX4 76
  | 1 => .string RX4 97
  | 2 => .string RX11 26
  | _ => .string RX11 32
theorem gv_S (fl : ∀ c ∈ flatC (Jvm.Cond.and given_1 narrow_1), c.before args s = true) : ∃ adK adV : Nat → Nat, vk_S 4 slen sbyt adK adV (rA s) s s.heap ∧ ∀ i : Nat, i < 4 → (tmS i).eval args s none [] s = some (.ref (adK i)) := by
  refine vk_Sof (N := 4) (tm := tmS) (len := slen) (byt := sbyt) ?_ ?_ ?_ ?_ ?_ ?_ ?_ (rA_no s)
  · intro i hi
    rcases (show i = 0 ∨ i = 1 ∨ i = 2 ∨ i = 3 by omega) with rfl | rfl | rfl | rfl <;> decide
  · intro i hi
    rcases (show i = 0 ∨ i = 1 ∨ i = 2 ∨ i = 3 by omega) with rfl | rfl | rfl | rfl <;> exact fl _ (by decide +kernel)
  · intro i hi
    rcases (show i = 0 ∨ i = 1 ∨ i = 2 ∨ i = 3 by omega) with rfl | rfl | rfl | rfl <;> exact fl _ (by decide +kernel)
  · intro i hi
    rcases (show i = 0 ∨ i = 1 ∨ i = 2 ∨ i = 3 by omega) with rfl | rfl | rfl | rfl <;> exact fl _ (by decide +kernel)
  · intro i hi
    rcases (show i = 0 ∨ i = 1 ∨ i = 2 ∨ i = 3 by omega) with rfl | rfl | rfl | rfl <;> exact fl _ (by decide +kernel)
  · intro i hi j hj
    rcases (show i = 0 ∨ i = 1 ∨ i = 2 ∨ i = 3 by omega) with rfl | rfl | rfl | rfl
    · have hj : j < 5 := hj
      rcases (show j = 0 ∨ j = 1 ∨ j = 2 ∨ j = 3 ∨ j = 4 by omega) with rfl | rfl | rfl | rfl | rfl <;> exact fl _ (by decide +kernel)
    · have hj : j < 2 := hj
      rcases (show j = 0 ∨ j = 1 by omega) with rfl | rfl <;> exact fl _ (by decide +kernel)
    · have hj : j < 1 := hj
      rcases (show j = 0 by omega) with rfl
      exact fl _ (by decide +kernel)
    · have hj : j < 5 := hj
      rcases (show j = 0 ∨ j = 1 ∨ j = 2 ∨ j = 3 ∨ j = 4 by omega) with rfl | rfl | rfl | rfl | rfl <;> exact fl _ (by decide +kernel)
  · intro i j hi hj hij
    rcases (show i = 0 ∨ i = 1 ∨ i = 2 ∨ i = 3 by omega) with rfl | rfl | rfl | rfl <;> rcases (show j = 0 ∨ j = 1 ∨ j = 2 ∨ j = 3 by omega) with rfl | rfl | rfl | rfl <;> first
      | exact absurd rfl hij
      | exact Or.inl (fl _ (by decide +kernel))
      | exact Or.inr (fl _ (by decide +kernel))
end Given
