/-! static calls at any end; height's number -/
theorem wg_callS {X : Cx} {M M2 : Mt} {R : Room} {cn sn pc : Nat} {Qf : State → Array Value → List Frame → State → Prop} {lv : List (Nat × Value)} {st : List Value} {h : Hp} {idx n d2 : Nat} {av rest : List Value} {PC : Option Value → Hp → Prop} (hd : decode M.2.1 pc = .ok (.invokestatic idx, 3)) (hw : Cond.methodLink M.1.cls idx M2.1 ∈ wsG) (hm : MS M2 n) (hsp : Spec X M2 d2 av h PC) (hst : st = av.reverse ++ rest) (hn : av.length = n) (hR : RmOk R cn sn d2 M2.2.2.1) (hrm : (rest.map fun v => v.category).sum ≤ 8) (k : ∀ (r : Option Value) (h' : Hp), PC r h' → WG X M R cn sn Qf (pc + 3) lv (r.toList ++ rest) h') : WG X M R cn sn Qf pc lv st h := by
  intro p e s m args below meth c H locs ls hC hP hS hl
  obtain ⟨w1, w3, w4, w5⟩ := hm
  have hts := hC.2.2.2.2.2.1
  exact wg_run hC hS hl (va_runS ⟨hC.1, hC.2.1, hC.2.2.2.1, hC.2.2.2.2.1, hts⟩ (hsp H.size) ⟨callB_of n hts (goodM w4) rfl rfl rfl (hts _ (wsM_G w3)) (hts _ (wsM_G hw)) w5 hR.1, hts _ (wsM_G w1)⟩ ⟨pw_blind, fun U hU hW => pw_at hC hP hS U hU hW⟩ rfl hn hl.1 hst (lv_room hrm) hd ⟨hR.2.1, hR.2.2⟩) k
theorem AC.high {h : Hp} {σ : Sg} (a : AC h σ) {p : Int} (hp : 0 ≤ p ∧ p < gP (sG σ)) : htO h (hR h 0 6) p = qHigh σ p := by
  unfold qHigh
  rw [if_pos hp]
  exact congrFun a.2.2.2.2.1.2.2.2.2.1 p
