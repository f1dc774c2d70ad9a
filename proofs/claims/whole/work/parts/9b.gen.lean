/-! calls at any end, any room; bodies that may throw -/
abbrev nse : String := "java/util/NoSuchElementException"
abbrev nsn : List String := ["java/lang/RuntimeException", "java/lang/Exception"]
/-- the words of the throw that aren't good -/
def nbw : List Cond := (vx_at0 RX10 158 nse nsn).filter (fun w => !goodWord w)
section Gen
variable {X : Cx} {M M2 : Mt} {R : Room} {cn sn d pc : Nat} {Qf : State → Array Value → List Frame → State → Prop} {lv : List (Nat × Value)} {st : List Value} {h : Hp} {Post : Option Value → Hp → Prop}
theorem wg_run {p : Program} {e : Env} {s : State} {m : MethodId} {args : Array Value} {below : List Frame} {meth : Method} {c : Code} {H : Heap} {locs : List Loc} {ls : Array Slot} {rest st0 : List Value} {av : Array Value} {PC : Option Value → Hp → Prop} (hC : WC X M p s m args meth c) (hS : va_S (AW X s.heap.size) s.heap H locs) (hl : lv_has ls M.2.2.1 lv)
    (hr : va_Run p X.1 e R s m args below meth c H locs cn sn 0 0 (F0 m pc ls st0) rest (QP X PC av) (AW X H.size)) (k : ∀ (r : Option Value) (h' : Hp), PC r h' → WG X M R cn sn Qf (pc + 3) lv (r.toList ++ rest) h') : W p X.1 e R s m args below meth c H locs cn sn (Qf s args below) (F0 m pc ls st0) := by
  intro T hT XT
  obtain ⟨v, st₀, t, T', L, h0, X', hL, e1, e2, ⟨⟨r, h', hv, hp, hb⟩, hz, hk⟩, stp⟩ := hr T hT XT
  cases hv
  rw [h0] at hz hk
  have hS' : va_S (AW X s.heap.size) s.heap T'.heap (locs ++ L) := by
    refine ⟨Nat.le_trans hS.1 (by rw [e1]; exact hz), fun q h1 h2 => ?_, fun q hq => ?_⟩
    · rw [e1, hk q (Nat.lt_of_lt_of_le h1 hS.1) (fun z => h2 (AW_mono hS.1 q z))]
      exact hS.2.1 q h1 h2
    · rcases List.mem_append.mp hq with h9 | h9
      · exact hS.2.2 q h9
      · exact AW_mono hS.1 _ (hL q h9)
  obtain ⟨t2, a1, b1⟩ := k v h' hp p e s m args below meth c T'.heap (locs ++ L) ls hC (by rw [e1]; exact hb) hS' hl T' rfl X'
  exact ⟨t2, stp t2 a1, b1⟩
/-- room for a callee -/
def RmOk (R : Room) (cn sn d2 n : Nat) : Prop := ((rmD d2).frames + 1 ≤ R.frames ∧ 8 + (n + 11) + (rmD d2).locals ≤ R.locals) ∧ cn ≤ R.cells ∧ sn ≤ R.slots
theorem wg_callV {idx ci b n d2 : Nat} {ks : List Nat} {av rest : List Value} {PC : Option Value → Hp → Prop} {q : vw_C} (hd : decode M.2.1 pc = .ok (.invokevirtual idx, 3)) (hw : Cond.methodLink M.1.cls idx M2.1 ∈ wsG) (hm : MV M2 n) (hsp : Spec X M2 d2 (.ref (adr X b) :: av) h PC) (hst : st = av.reverse ++ .ref (adr X b) :: rest) (hn : av.length = n) (hR : RmOk R cn sn d2 M2.2.2.1) (hs : shp[b]? = some (.inr (ci, ks))) (hq : vwCl[ci]? = some q) (hqc : q.1 = M2.1.cls) (hrm : (rest.map fun v => v.category).sum ≤ 8) (k : ∀ (r : Option Value) (h' : Hp), PC r h' → WG X M R cn sn Qf (pc + 3) lv (r.toList ++ rest) h') : WG X M R cn sn Qf pc lv st h := by
  intro p e s m args below meth c H locs ls hC hP hS hl
  obtain ⟨w1, w2, w3, w4, w5⟩ := hm
  have hts := hC.2.2.2.2.2.1
  have hrecv := va_recv hC.2.2.2.2.2.2.2.1 hP hq (wld_at hs)
  rw [hqc] at hrecv
  exact wg_run hC hS hl (va_runV (C := M2.1.cls) (b := adr X b) ⟨hC.1, hC.2.1, hC.2.2.2.1, hC.2.2.2.2.1, hts⟩ (hsp H.size) ⟨callB_of n hts (goodM w4) rfl rfl rfl (hts _ (wsM_G w3)) (hts _ (wsM_G hw)) w5 hR.1, hts _ (wsM_G w1), hts _ (wsM_G w2)⟩ ⟨pw_blind, hrecv, fun U hU hW => pw_at hC hP hS U hU hW⟩ rfl hn hl.1 hst (lv_room hrm) hd ⟨hR.2.1, hR.2.2⟩) k
theorem wg_callVp {idx ci b n d2 : Nat} {ks : List Nat} {av rest : List Value} {v : Value} {q : vw_C} (hd : decode M.2.1 pc = .ok (.invokevirtual idx, 3)) (hw : Cond.methodLink M.1.cls idx M2.1 ∈ wsG) (hm : MV M2 n) (hsp : Spec X M2 d2 (.ref (adr X b) :: av) h (fun r h' => r = some v ∧ h' = h)) (hst : st = av.reverse ++ .ref (adr X b) :: rest) (hn : av.length = n) (hR : RmOk R cn sn d2 M2.2.2.1) (hs : shp[b]? = some (.inr (ci, ks))) (hq : vwCl[ci]? = some q) (hqc : q.1 = M2.1.cls) (hrm : (rest.map fun v => v.category).sum ≤ 8) (k : WG X M R cn sn Qf (pc + 3) lv (v :: rest) h) : WG X M R cn sn Qf pc lv st h :=
  wg_callV hd hw hm hsp hst hn hR hs hq hqc hrm (fun r h' e => by obtain ⟨rfl, rfl⟩ := e; exact k)
/-- the method of the frame is the one of this name -/
def Gd (M : Mt) (s : State) (args : Array Value) (below : List Frame) : Prop := (∀ m : MethodId, s.frames = .invoking m args :: below → s.methodNamed? M.1 = some m) ∧ ∀ w ∈ nbw, w.before args s = true
/-- ends of a body that may throw -/
def QX (X : Cx) (M : Mt) (Post : Option Value → Hp → Prop) (XC : String → State → State → Prop) (mc ms : Nat) : State → Array Value → List Frame → State → Prop := fun s args below t => Gd M s args below → vx_MQ below (QP X Post) XC args s mc ms (AW X s.heap.size) t
theorem wx_iret {XC : String → State → State → Prop} {mc ms : Nat} {a : Int} (h1 : cn ≤ mc) (h2 : sn ≤ ms) (hd : decode M.2.1 pc = .ok (.ireturn, 1)) (hr : M.2.2.2 = some .int) (hq : Post (some (.int (iI a))) h) : WG X M R cn sn (QX X M Post XC mc ms) pc lv [.int (iI a)] h := by
  intro p e s m args below meth c H locs ls hC hP hS hl T hT XT
  have k : W p X.1 e R s m args below meth c H locs mc ms (MQ below (QP X Post) args s mc ms (AW X s.heap.size)) (F0 m pc ls [.int (iI a)]) := W.iret hC.1 hC.2.1 (hC.2.2.1.trans hr) (fun t ht _ => ⟨⟨_, h, rfl, hq, by rw [ht]; exact hP⟩, hS.F ht⟩) hS.2.2 hd hC.2.2.2.2.2.2.1
  obtain ⟨t, a1, b1⟩ := vx_ret (XC := XC) k T hT (stand_widen XT h1 h2)
  exact ⟨t, a1, fun _ => b1⟩
/-- a contract of a method that may throw -/
def SpecX (X : Cx) (M : Mt) (rm : Room) (av : List Value) (h : Hp) (Post : Option Value → Hp → Prop) (XC : String → State → State → Prop) (mc ms : Nat) : Prop :=
  ∀ sz : Nat, vx_Met X.1 M.1 (wsM M ++ nbw) rm (va_Pc av (PW X h sz)) (QP X Post) XC mc ms (AW X sz)
theorem specX_wp {rm : Room} {av : List Value} {XC : String → State → State → Prop} {mc ms : Nat} (hn : (lg_sl av).length ≤ M.2.2.1) (hp : plainName M.1.cls = true) (k : WG X M rm 0 0 (QX X M Post XC mc ms) 0 (lv_args 0 av) [] h) : SpecX X M rm av h Post XC mc ms := by
  intro sz
  refine vx_ofW (cc := M.2.1) (maxL := M.2.2.1) (ret := M.2.2.2) hp rfl ?_
  intro p e s m args below meth c s₁ B hml ht hv
  obtain ⟨rfl, hsz, hP, hK, hE, hi⟩ := hv
  subst hsz
  have hts9 := atoms_spec (ws := wsM M ++ nbw) B.pre
  have hts : ∀ w ∈ wsM M, w.before av.toArray s = true := fun w hw => hts9 w (List.mem_append_left _ hw)
  have hown : s.vm.findClass M.1.cls = some m.cls := findClass_of_methodNamed B.named
  rw [lg_entry_eq]
  intro T hT XT
  obtain ⟨t, a1, b1⟩ := k p e s m _ below meth c s.heap [] _ ⟨B.exec, B.bytes, B.returns, hml, hown, hts, B.notSynchronized, hK, hE, hi⟩ hP va_S.rf (lv_entry av hn) T hT XT
  refine ⟨t, a1, b1 ⟨fun m9 h9 => ?_, fun w hw => hts9 w (List.mem_append_right _ hw)⟩⟩
  have h8 := XT.frames
  rw [h8] at h9
  cases h9
  exact B.named
end Gen
