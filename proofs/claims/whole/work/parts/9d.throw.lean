/-! the throw itself -/
theorem k156 : Cond.classLink RX10 156 nse ∈ wsG := List.mem_filter.mpr ⟨by decide +kernel, by decide +kernel⟩
theorem kini : Cond.initialized nse ∈ wsG := List.mem_filter.mpr ⟨by decide +kernel, by decide +kernel⟩
theorem kgood : ∀ w ∈ Cond.classLink RX10 156 nse :: Cond.initialized nse :: vx_at0 RX10 158 nse nsn, vx_ot w = true := by
  intro w hw
  rcases List.mem_cons.mp hw with rfl | hw
  · decide +kernel
  · rcases List.mem_cons.mp hw with rfl | hw
    · decide +kernel
    · exact List.all_eq_true.mp at_ot w hw
theorem wx_throw0 {X : Cx} {M : Mt} {R : Room} {cn sn pc : Nat} {lv : List (Nat × Value)} {st : List Value} {h : Hp} {Post : Option Value → Hp → Prop} {XC : String → State → State → Prop} {mc ms : Nat} (hl0 : X.1.stackTraces = false) (hM : M.1.cls = RX10)
    (d0 : decode M.2.1 pc = .ok (.new 156, 3)) (d3 : decode M.2.1 (pc + 3) = .ok (.dup, 1)) (d4 : decode M.2.1 (pc + 4) = .ok (.invokespecial 158, 3)) (d7 : decode M.2.1 (pc + 7) = .ok (.athrow, 1))
    (hf : 5 < R.frames) (hlo : (st.map fun v => v.category).sum + 81 ≤ R.locals) (hce : cn + 1 ≤ R.cells) (hsl : sn + 6 ≤ R.slots) (hc : cn + 1 ≤ mc) (hs : sn + 6 ≤ ms)
    (hx : ∀ (s t : State) (H : Heap) (locs : List Loc), va_P X.2.1 vwCl (wld X h) H → va_S (AW X s.heap.size) s.heap H locs → H.size ≤ t.heap.size → (∀ q : Nat, q < H.size → t.heap[q]? = H[q]?) → XC nse s t) : WG X M R cn sn (QX X M Post XC mc ms) pc lv st h := by
  intro p e s m args below meth c H locs ls hC hP hS hl T hT XT
  by_cases g : Gd M s args below
  · have hts := hC.2.2.2.2.2.1
    have hE := hC.2.2.2.2.2.2.2.2.1
    have hn := g.1 m XT.frames
    have ht : ∀ x ∈ c.exceptionTable.toList, False := by
      obtain ⟨meth9, c9, h1, h2, -, -, -, -, h7, -⟩ := Cond.code_spec hn (hts _ List.mem_cons_self)
      cases Option.some.inj (h1.symm.trans XT.method)
      cases Option.some.inj (h2.symm.trans XT.code)
      intro x hx
      rw [Array.isEmpty_iff.mp h7] at hx
      cases hx
    have hat : ∀ w ∈ vx_at0 RX10 158 nse nsn, w.before args s = true := vx_hat (B := nbw) (fun w hw => hts w (wsM_G (List.mem_filter.mpr ⟨of_decide_eq_true (List.all_eq_true.mp at_tbl w (List.mem_filter.mp hw).1), (List.mem_filter.mp hw).2⟩))) (fun w hw => hw) g.2
    obtain ⟨t, a1, b1⟩ := vx_throw0 (XC := XC) (Qc := QP X Post) (free := AW X s.heap.size) (mc := mc) (ms := ms) (names := nsn) (cls := nse) (own := RX10) (ik := 156) (ic := 158) (A := AW X s.heap.size) hC.1 hC.2.1 hl0 (by rw [← hM]; exact hC.2.2.2.2.1) (by decide +kernel) (by decide +kernel) (hts _ (wsM_G k156)) (hts _ (wsM_G kini)) hat kgood hE.2.2.2.2.2.2.2.2.1 hE.2.2.2.2.2.2.2.2.2 hS (hl.1.trans hC.2.2.2.1.symm) d0 d3 d4 d7 (fun x hx => (ht x hx).elim) hf hlo hce hsl hC.2.2.2.2.2.2.1 (fun t _ h1 h2 => hx s t H locs hP hS h1 h2) hS.2.2 hc hs T hT XT
    exact ⟨t, a1, fun _ => b1⟩
  · exact ⟨_, Steps.refl _, fun q => absurd q g⟩
