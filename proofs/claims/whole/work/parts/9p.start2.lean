/-! the start: the context, the first state -/
def hiF (b t1 t2 t3 t4 : Nat) (adK adV : Nat → Nat) (k : Nat) : Nat := if k < 110 then [b, t1, t2, t3, t4].getD (k - 100) 0 else if k < 120 then adK (k - 110) else adV (k - 120)
theorem st_ext {s : State} {args : Array Value} {b L : Nat} {xs : Nat → Int32} (hts : ∀ w ∈ lw_tbl, w.before args s = true) (hg : (Jvm.Cond.and given_1 narrow_1).before args s = true) (hX : va_X b L xs s s.heap) (hbl : b < s.heap.size) : ∃ hi : Nat → Nat, hi 100 = b ∧ ∀ (l : Launch) (D : va_G) (ty : Nat → ClassId), EXT (mkX l D ty hi (extL L xs) []) (rA s) s s.heap := by
  have fl := flat_of_before _ hg
  obtain ⟨t1, e1, v1⟩ := gv_TL fl
  obtain ⟨t2, e2, v2⟩ := gv_TM fl
  obtain ⟨t3, e3, v3⟩ := gv_CL fl
  obtain ⟨t4, e4, v4⟩ := gv_CM fl
  obtain ⟨adK, adV, vS, eS⟩ := gv_S fl
  have i4 : (Cond.initialized RX4).before args s = true := hts _ (List.mem_of_getElem? (i := 78) (by decide +kernel))
  refine ⟨hiF b t1 t2 t3 t4 adK adV, rfl, fun l D ty => ?_⟩
  have hk : ∀ i : Nat, i < 4 → adr (mkX l D ty (hiF b t1 t2 t3 t4 adK adV) (extL L xs) []) (110 + i) = adK i := by
    intro i hi
    rw [adr_hi (by omega)]
    unfold hiF
    rw [if_neg (by omega), if_pos (by omega), show 110 + i - 110 = i by omega]
  have hv : ∀ i : Nat, i < 4 → adr (mkX l D ty (hiF b t1 t2 t3 t4 adK adV) (extL L xs) []) (120 + i) = adV i := by
    intro i hi
    rw [adr_hi (by omega)]
    unfold hiF
    rw [if_neg (by omega), if_neg (by omega), show 120 + i - 120 = i by omega]
  refine ⟨?_, ?_, ?_, ?_, ?_, ?_, ?_, ?_, ?_, ?_⟩
  · intro q hq
    rcases List.mem_cons.mp hq with rfl | hq
    · exact sc_T hX hbl
    · rcases List.mem_cons.mp hq with rfl | hq
      · exact v1
      · rcases List.mem_cons.mp hq with rfl | hq
        · exact v2
        · rcases List.mem_cons.mp hq with rfl | hq
          · exact v3
          · rcases List.mem_cons.mp hq with rfl | hq
            · exact v4
            · cases hq
  · intro z hz
    rcases List.mem_cons.mp hz with rfl | hz
    · exact va_Zof (hts _ (List.mem_of_getElem? (i := 426) (by decide +kernel))) i4 e1 (rA_no s)
    · rcases List.mem_cons.mp hz with rfl | hz
      · exact va_Zof (hts _ (List.mem_of_getElem? (i := 428) (by decide +kernel))) i4 e2 (rA_no s)
      · rcases List.mem_cons.mp hz with rfl | hz
        · exact va_Zof (hts _ (List.mem_of_getElem? (i := 529) (by decide +kernel))) i4 e3 (rA_no s)
        · rcases List.mem_cons.mp hz with rfl | hz
          · exact va_Zof (hts _ (List.mem_of_getElem? (i := 531) (by decide +kernel))) i4 e4 (rA_no s)
          · cases hz
  · exact va_Zof (hts _ (List.mem_of_getElem? (i := 442) (by decide +kernel))) (hts _ (List.mem_of_getElem? (i := 89) (by decide +kernel))) (va_eqt (fl (.eq (.static "java/lang/String" "COMPACT_STRINGS" "Z") (.int 1)) (by decide +kernel))) (rA_no s)
  · refine ⟨fun i hi => ?_, fun i j hi hj e => vS.2 i j hi hj (by rw [← hk i hi, ← hk j hj]; exact e)⟩
    have h9 := vS.1 i hi
    rw [← hk i hi, ← hv i hi] at h9
    exact h9
  · have r0 := eS 0 (by decide)
    have r1 := eS 1 (by decide)
    have r2 := eS 2 (by decide)
    have r3 := eS 3 (by decide)
    intro z hz
    rcases List.mem_cons.mp hz with rfl | hz
    · rw [show adr (mkX l D ty (hiF b t1 t2 t3 t4 adK adV) (extL L xs) []) 110 = adK 0 from hk 0 (by decide)]
      exact vk_R.of (A := args) (hts _ (List.mem_of_getElem? (i := 424) (by decide +kernel))) r0
    · rcases List.mem_cons.mp hz with rfl | hz
      · rw [show adr (mkX l D ty (hiF b t1 t2 t3 t4 adK adV) (extL L xs) []) 111 = adK 1 from hk 1 (by decide)]
        exact vk_R.of (A := args) (hts _ (List.mem_of_getElem? (i := 527) (by decide +kernel))) r1
      · rcases List.mem_cons.mp hz with rfl | hz
        · rw [show adr (mkX l D ty (hiF b t1 t2 t3 t4 adK adV) (extL L xs) []) 112 = adK 2 from hk 2 (by decide)]
          exact vk_R.of (A := args) (hts _ (List.mem_of_getElem? (i := 1101) (by decide +kernel))) r2
        · rcases List.mem_cons.mp hz with rfl | hz
          · rw [show adr (mkX l D ty (hiF b t1 t2 t3 t4 adK adV) (extL L xs) []) 113 = adK 3 from hk 3 (by decide)]
            exact vk_R.of (A := args) (hts _ (List.mem_of_getElem? (i := 1102) (by decide +kernel))) r3
          · rcases List.mem_cons.mp hz with rfl | hz
            · rw [show adr (mkX l D ty (hiF b t1 t2 t3 t4 adK adV) (extL L xs) []) 110 = adK 0 from hk 0 (by decide)]
              exact vk_R.of (A := args) (hts _ (List.mem_of_getElem? (i := 1322) (by decide +kernel))) (va_eqR (fl (.eq (.string RX4 76) (.string RX11 250)) (by decide +kernel)) r0)
            · rcases List.mem_cons.mp hz with rfl | hz
              · rw [show adr (mkX l D ty (hiF b t1 t2 t3 t4 adK adV) (extL L xs) []) 111 = adK 1 from hk 1 (by decide)]
                exact vk_R.of (A := args) (hts _ (List.mem_of_getElem? (i := 1354) (by decide +kernel))) (va_eqR (fl (.eq (.string RX4 97) (.string RX11 256)) (by decide +kernel)) r1)
              · cases hz
  · exact va_Nw.of rfl (hts _ (List.mem_of_getElem? (i := 614) (by decide +kernel)))
  · exact va_Nw.of rfl (hts _ (List.mem_of_getElem? (i := 720) (by decide +kernel)))
  · exact va_Zqof (hts _ (List.mem_of_getElem? (i := 490) (by decide +kernel))) (hts _ (List.mem_of_getElem? (i := 93) (by decide +kernel))) (fl (.isRef (.static "jdk/internal/util/Preconditions" "SIOOBE_FORMATTER" "Ljava/util/function/BiFunction;")) (by decide +kernel)) (rA_no s)
  · exact vx_Zqof (hts _ (List.mem_of_getElem? (i := 1061) (by decide +kernel))) (hts _ (List.mem_of_getElem? (i := 96) (by decide +kernel))) (fl (.isRef (.static Bundle.tN "UNASSIGNED_STACK" Bundle.steD)) (by decide +kernel)) (rA_no s)
  · exact vx_Zqof (hts _ (List.mem_of_getElem? (i := 1063) (by decide +kernel))) (hts _ (List.mem_of_getElem? (i := 96) (by decide +kernel))) (fl (.isRef (.static Bundle.tN "SUPPRESSED_SENTINEL" Bundle.listD)) (by decide +kernel)) (rA_no s)
theorem nw_words {s : State} {args : Array Value} (hts : ∀ w ∈ lw_tbl, w.before args s = true) : ∀ z ∈ nwL, va_Nw (.methodLinkNest RX10 z.1 z.2 RX10) s := by
  have h1 : ∀ z ∈ nwL, Cond.methodLinkNest RX10 z.1 z.2 RX10 ∈ lw_tbl := by
    have h2 : nwL.all (fun z => decide (Cond.methodLinkNest RX10 z.1 z.2 RX10 ∈ lw_tbl)) = true := by decide +kernel
    intro z hz
    exact of_decide_eq_true (List.all_eq_true.mp h2 z hz)
  exact fun z hz => va_Nw.of rfl (hts _ (h1 z hz))
theorem nb_words {s : State} {args : Array Value} (hts : ∀ w ∈ lw_tbl, w.before args s = true) : ∀ w ∈ nbw, w.before args s = true := by
  intro w hw
  exact hts w (of_decide_eq_true (List.all_eq_true.mp at_tbl w (List.mem_filter.mp hw).1))
/-! the first state -/
def h00 : Hp := (fun a j => if a = 0 ∧ j = 5 then -1 else if a = 30 ∧ j = 4 then 99 else if a = 47 ∧ j = 31 then -1 else 0, fun _ _ => 0, fun a j => if a = 0 ∧ j = 6 then 20 else if a = 0 ∧ j = 7 then 25 else if a = 47 ∧ j = 5 then 48 else 0)
def G00 : Gdn := ((0, 0, 0), (fun _ => 0), (fun _ => 0), (fun _ => 0), fun _ => 0)
def σ00 : Sg := ([], [], -1, G00, [], [], none)
theorem h00_I {a j : Nat} (h : ¬ (a = 0 ∨ a = 30 ∨ a = 47)) : hI h00 a j = 0 := by
  unfold hI h00
  dsimp only
  rw [if_neg (by omega), if_neg (by omega), if_neg (by omega)]
theorem ok00 : SOK σ00 := by
  have z : (0 : Int) ≤ 0 ∧ (0 : Int) ≤ 99 := by decide
  refine ⟨⟨by decide, fun b hb => (by cases hb)⟩, ⟨by decide, fun t ht => (by cases ht)⟩, by decide, ⟨Or.inl ⟨rfl, rfl, rfl⟩, by decide, ⟨fun i => z, fun i _ => rfl, fun i => z, fun i _ => rfl⟩, fun h => absurd h (by decide)⟩, ⟨by decide, fun q hq => (by cases hq)⟩, ⟨by decide, fun l hl => (by cases hl)⟩, (fun l hl => (by cases hl)), fun _ => ⟨rfl, rfl, rfl⟩⟩
theorem ac00 : AC h00 σ00 := by
  refine ⟨⟨rfl, fun i hi => by cases hi⟩, ⟨rfl, fun w t ht => by cases ht⟩, rfl, ⟨Or.inl ⟨rfl, rfl⟩, fun i hi => ?_⟩, ⟨rfl, rfl, rfl, fun i hi => ?_, ?_, ?_, fun h => absurd h (by decide)⟩, ⟨rfl, fun i q hq => by cases hq⟩, ⟨rfl, by decide, by decide, fun k l hl => by cases hl⟩, ⟨rfl, fun l hl => by cases hl⟩, ⟨Or.inl rfl, fun h => absurd h (by decide)⟩⟩
  · rw [show hR h00 0 7 + 1 = 26 from rfl, h00_I (by decide)]; decide
  · rw [show hR h00 0 6 + 1 = 21 from rfl, h00_I (by decide)]; decide
  · funext i
    show htO h00 20 i = 0
    unfold htO
    split
    · exact h00_I (by decide)
    · rfl
  · funext i
    show shO h00 20 i = 0
    unfold shO
    split
    · exact h00_I (by decide)
    · rfl
theorem am00 : AM h00 σ00 := by
  refine ⟨⟨rfl, fun i hi => by cases hi⟩, ⟨rfl, fun w t ht => by cases ht⟩, rfl, Or.inl rfl, ⟨rfl, rfl, rfl, ?_, ?_, fun s hs => absurd hs (by show ¬ ((s : Int) < 0); omega)⟩, ⟨rfl, fun i q hq => by cases hq⟩, ⟨rfl, fun k l hl => by cases hl⟩, ⟨rfl, fun l hl => by cases hl⟩⟩
  · funext i
    show hM h00 i = 0
    unfold hM
    split
    · exact h00_I (by decide)
    · rfl
  · funext i
    show sM h00 i = 0
    unfold sM
    split
    · exact h00_I (by decide)
    · rfl
