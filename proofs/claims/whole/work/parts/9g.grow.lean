/-! constructors: worlds that grow -/
def nwL : List (Nat × MethodName) := [(9, yX7_init), (18, yX4_init), (25, yX9_init), (45, yX3_init), (55, yX5_init), (62, yX0_init), (77, yX1_init), (84, yX6_init), (91, yX2_init), (102, yX8_init)]
def GN (X : Cx) (s : State) : Prop := va_K X.2.1 vwCl (tys X) s ∧ (∀ z ∈ srL, vk_R z.1 z.2.1 z.2.2.1 (adr X z.2.2.2) s) ∧ va_AO RX8 s ∧ ∀ z ∈ nwL, va_Nw (.methodLinkNest RX10 z.1 z.2 RX10) s
theorem GN.go {X : Cx} {u U : State} (h : GN X u) (hW : u.WarmedH U.vm) : GN X U := ⟨va_K.moved hW.alike h.1, fun z hz => (h.2.1 z hz).warm hW, h.2.2.1.moved hW.alike, fun z hz => (h.2.2.2 z hz).warmM hW⟩
theorem GN.call {X : Cx} {u U : State} (h : GN X u) (hv : U.vm = u.vm) : GN X U := by
  have ha : u.vm.Alike U.vm := by rw [hv]; exact Vm.Alike.refl _
  exact ⟨va_K.moved ha h.1, fun z hz => (h.2.1 z hz).same hv, h.2.2.1.moved ha, fun z hz => va_Nw.same rfl hv.symm (h.2.2.2 z hz)⟩
def WCn (X : Cx) (M : Mt) (p : Program) (s : State) (m : MethodId) (args : Array Value) (meth : Method) (c : Code) : Prop :=
  p.tables.exec = Jvm.exec ∧ c.code = M.2.1 ∧ meth.sig.returnType = M.2.2.2 ∧ c.maxLocals = M.2.2.1 ∧ s.vm.findClass M.1.cls = some m.cls ∧ (∀ w ∈ wsM M, w.before args s = true) ∧ meth.locks = false ∧ GN X s ∧ (M.1.name = "<init>" → meth.name = "<init>")
/-- at a place of a body: the world is the list ws -/
def WN (X : Cx) (M : Mt) (R : Room) (w0 : va_W) (cn sn : Nat) (Qf : State → Array Value → List Frame → State → Prop) (pc : Nat) (lv : List (Nat × Value)) (st : List Value) (ws : va_W) : Prop :=
  ∀ (p : Program) (e : Env) (s : State) (m : MethodId) (args : Array Value) (below : List Frame) (meth : Method) (c : Code) (H : Heap) (locs : List Loc) (ls : Array Slot),
    WCn X M p s m args meth c → va_P X.2.1 vwCl ws H → va_D (va_A w0 s.heap.size) ws → va_S (va_A w0 s.heap.size) s.heap H locs → lv_has ls M.2.2.1 lv →
    W p X.1 e R s m args below meth c H locs cn sn (Qf s args below) (F0 m pc ls st)
def PN (X : Cx) (d0 : va_E) (b sz : Nat) (U : State) : Prop := U.heap.size = sz ∧ va_P X.2.1 vwCl [(b, d0)] U.heap ∧ GN X U
def BN (X : Cx) (d0 : va_E) (b sz : Nat) (wf : List Nat → va_W) : List Nat → State → Prop := fun qs t => va_P X.2.1 vwCl (wf qs) t.heap ∧ va_D (va_A [(b, d0)] sz) (wf qs)
def QN (X : Cx) (d0 : va_E) (b : Nat) (wf : List Nat → va_W) (mc ms : Nat) : State → Array Value → List Frame → State → Prop := fun s args below => MQ below (va_Qv (fun _ : List Nat => True) (BN X d0 b s.heap.size wf) (va_A [(b, d0)] s.heap.size)) args s mc ms (va_A [(b, d0)] s.heap.size)
/-- a constructor's contract: its own cell, then what it made -/
def SpecN (X : Cx) (M : Mt) (rm : Room) (mc ms : Nat) (d0 : va_E) (b : Nat) (wf : List Nat → va_W) : Prop :=
  ∀ sz : Nat, Met X.1 M.1 (wsM M) rm (va_Pc [.ref b] (PN X d0 b sz)) (va_Qv (fun _ : List Nat => True) (BN X d0 b sz wf) (va_A [(b, d0)] sz)) mc ms (va_A [(b, d0)] sz)
theorem one_D {A : Nat → Prop} {b : Nat} {d0 : va_E} (h : A b) : va_D A [(b, d0)] := by
  have key : ∀ (k : Nat) (q : Nat × va_E), [(b, d0)][k]? = some q → k = 0 ∧ q = (b, d0) := by
    intro k q hk
    match k, hk with
    | 0, hk => exact ⟨rfl, (Option.some.inj hk).symm⟩
    | n + 1, hk => simp at hk
  exact ⟨fun i j p q h1 h2 _ => by rw [(key i p h1).1, (key j q h2).1], fun k q hk => by rw [(key k q hk).2]; exact h⟩
theorem specN_wn {X : Cx} {M : Mt} {rm : Room} {mc ms : Nat} {d0 : va_E} {b : Nat} {wf : List Nat → va_W} (hn : 1 ≤ M.2.2.1) (hp : plainName M.1.cls = true) (k : WN X M rm [(b, d0)] 0 0 (QN X d0 b wf mc ms) 0 [(0, .ref b)] [] [(b, d0)]) : SpecN X M rm mc ms d0 b wf := by
  intro sz
  refine Met.ofW (cc := M.2.1) (maxL := M.2.2.1) (ret := M.2.2.2) hp rfl ?_
  intro p e s m args below meth c s₁ B hml hv
  obtain ⟨rfl, hsz, hP, hG⟩ := hv
  subst hsz
  have hts := atoms_spec (ws := wsM M) B.pre
  have hown : s.vm.findClass M.1.cls = some m.cls := findClass_of_methodNamed B.named
  rw [lg_entry_eq]
  have hl := lv_entry ([.ref b]) (n := M.2.2.1) hn
  exact k p e s m _ below meth c s.heap [] _ ⟨B.exec, B.bytes, B.returns, hml, hown, hts, B.notSynchronized, hG, fun h => ((name_of_methodNamed B.named B.method).1).trans h⟩ hP (one_D (Or.inl ⟨0, d0, rfl⟩)) va_S.rf hl
theorem va_RA_one {s : State} {a b : ClassId} {ty : FieldType} (h1 : va_RA s a ty) (h2 : va_RA s b ty) : a = b := by
  cases ty <;> first
    | exact Option.some.inj (h1.symm.trans h2)
    | (obtain ⟨_, _, _, _, _, g1⟩ := h1; obtain ⟨_, _, _, _, _, g2⟩ := h2; exact Option.some.inj (g1.symm.trans g2))
theorem gr_join {A0 : Nat → Prop} {D : va_G} {cl : List vw_C} {wr w1 : va_W} {b : Nat} {d0 : va_E} {H H1 : Heap} (hP : va_P D cl (wr ++ [(b, d0)]) H) (hD : va_D A0 (wr ++ [(b, d0)])) (hk : ∀ q : Nat, q < H.size → ¬ va_A [(b, d0)] H.size q → H1[q]? = H[q]?) (hF : ∀ q, va_A [(b, d0)] H.size q → A0 q) (hP1 : va_P D cl w1 H1) (hD1 : va_D (va_A [(b, d0)] H.size) w1) : va_P D cl (wr ++ w1) H1 ∧ va_D A0 (wr ++ w1) := by
  have up : ∀ (k : Nat) (q : Nat × va_E), wr[k]? = some q → (wr ++ [(b, d0)])[k]? = some q := fun k q hq => by
    rw [List.getElem?_append_left (List.getElem?_eq_some_iff.mp hq).1]; exact hq
  have lst : (wr ++ [(b, d0)])[wr.length]? = some (b, d0) := by
    rw [List.getElem?_append_right (Nat.le_refl _), Nat.sub_self]; rfl
  have key : ∀ (k : Nat) (q : Nat × va_E), wr[k]? = some q → q.1 < H.size ∧ ¬ va_A [(b, d0)] H.size q.1 := by
    intro k q hq
    have h1 : q.1 < H.size := (hP k q (up k q hq)).lt
    refine ⟨h1, fun h => ?_⟩
    rcases h with ⟨j, e, hj⟩ | h
    · have hb : q.1 = b := by
        match j, hj with
        | 0, hj => exact (congrArg Prod.fst (Option.some.inj hj)).symm
        | n + 1, hj => simp at hj
      have h2 := hD.1 k wr.length q (b, d0) (up k q hq) lst hb
      have h3 := (List.getElem?_eq_some_iff.mp hq).1
      omega
    · omega
  refine ⟨va_P.app (va_P.kept (fun k q hq => hP k q (up k q hq)) (fun k q hq => hk q.1 (key k q hq).1 (key k q hq).2)) hP1, va_D.app ⟨fun i j p q h1 h2 h3 => hD.1 i j p q (up i p h1) (up j q h2) h3, fun k q hq => hD.2 k q (up k q hq)⟩ (hD1.weaken (fun _ q _ h => hF q.1 h)) ?_⟩
  intro i j p q h1 h2 h3
  exact (key i p h1).2 (by rw [h3]; exact hD1.2 j q h2)
theorem kobI : Cond.instanceMethod Lib.objectInit ∈ wsG := inL 107 (by decide +kernel) rfl
theorem kobC : Cond.code Lib.objectInit ⟨#[0xb1]⟩ 1 none ∈ wsG := inL 108 (by decide +kernel) rfl
theorem karI : Cond.arrayClass .int ∈ wsG := inL 129 (by decide +kernel) rfl
theorem karB : Cond.arrayClass .byte ∈ wsG := inL 571 (by decide +kernel) rfl
theorem karL : Cond.arrayClass .long ∈ wsG := inL 1668 (by decide +kernel) rfl
/-- a final field -/
def PF (own : String) (idx ci j : Nat) (ty : FieldType) : Prop := ∃ q : vw_C, vwCl[ci]? = some q ∧ j < q.2.2 ∧ Cond.fieldLink own idx (q.2.1 j).1 (q.2.1 j).2.1 (q.2.1 j).2.2.1 ∈ wsG ∧ (q.2.1 j).2.2.2 = true ∧ (q.2.1 j).1 = own ∧ parseFieldDescriptor (q.2.1 j).2.2.1 = some ty
/-- a constructor's words -/
def MI (M : Mt) : Prop := Cond.instanceMethod M.1 ∈ wsG ∧ Cond.initialized M.1.cls ∈ wsG ∧ Cond.code M.1 M.2.1 M.2.2.1 none ∈ wsG ∧ M.2.2.2 = none ∧ M.1.name = "<init>" ∧ NOK M 0
/-- a class that can be made -/
def MN (own : String) (idx ci : Nat) (fs : List Value) (N : Nat) : Prop := ∃ (q : vw_C) (ty : Nat → FieldType), vwCl[ci]? = some q ∧ q.2.2 = N ∧ Cond.classLink own idx q.1 ∈ wsG ∧ Cond.instantiable q.1 q.2.2 ∈ wsG ∧ Cond.initialized q.1 ∈ wsG ∧ (∀ k, k < q.2.2 → parseFieldDescriptor (q.2.1 k).2.2.1 = some (ty k)) ∧ (List.range q.2.2).map (fun j => defaultValue (ty j)) = fs
section Grow
variable {X : Cx} {M M2 : Mt} {R : Room} {w0 : va_W} {cn sn pc : Nat} {Qf : State → Array Value → List Frame → State → Prop} {lv : List (Nat × Value)} {st : List Value} {ws : va_W}
theorem wn_aload_n {n : Fin 4} {r : Nat} (hd : decode M.2.1 pc = .ok (.aload_n n, 1)) (hg : lvGet lv n = some (.ref r)) (k : WN X M R w0 cn sn Qf (pc + 1) lv (.ref r :: st) ws) : WN X M R w0 cn sn Qf pc lv st ws := by
  intro p e s m args below meth c H locs ls hC hP hD hS hl
  exact lv_aload_n hC.1 hC.2.1 hd rfl (lvGet_at hl hg) (k p e s m args below meth c H locs _ hC hP hD hS hl)
theorem wn_iload_n {n : Fin 4} {a : Int} (hd : decode M.2.1 pc = .ok (.iload_n n, 1)) (hg : lvGet lv n = some (.int (iI a))) (k : WN X M R w0 cn sn Qf (pc + 1) lv (.int (iI a) :: st) ws) : WN X M R w0 cn sn Qf pc lv st ws := by
  intro p e s m args below meth c H locs ls hC hP hD hS hl
  exact lv_iload_n hC.1 hC.2.1 hd rfl (lvGet_at hl hg) (k p e s m args below meth c H locs _ hC hP hD hS hl)
theorem wn_iconst {n : Int} (hd : decode M.2.1 pc = .ok (.iconst n, 1)) (k : WN X M R w0 cn sn Qf (pc + 1) lv (.int (iI n) :: st) ws) : WN X M R w0 cn sn Qf pc lv st ws := by
  intro p e s m args below meth c H locs ls hC hP hD hS hl
  exact lv_iconst hC.1 hC.2.1 hd rfl (k p e s m args below meth c H locs _ hC hP hD hS hl)
theorem wn_bipush {n : Int} (hd : decode M.2.1 pc = .ok (.bipush n, 2)) (hv : (Int8.ofInt n).toInt32 = iI n) (k : WN X M R w0 cn sn Qf (pc + 2) lv (.int (iI n) :: st) ws) : WN X M R w0 cn sn Qf pc lv st ws := by
  intro p e s m args below meth c H locs ls hC hP hD hS hl
  exact lv_bipush hC.1 hC.2.1 hd hv (k p e s m args below meth c H locs _ hC hP hD hS hl)
theorem wn_sipush {n : Int} (hd : decode M.2.1 pc = .ok (.sipush n, 3)) (hv : (Int16.ofInt n).toInt32 = iI n) (k : WN X M R w0 cn sn Qf (pc + 3) lv (.int (iI n) :: st) ws) : WN X M R w0 cn sn Qf pc lv st ws := by
  intro p e s m args below meth c H locs ls hC hP hD hS hl
  exact lv_sipush hC.1 hC.2.1 hd hv (k p e s m args below meth c H locs _ hC hP hD hS hl)
theorem wn_lconst {n : Fin 2} {v : Int64} (hd : decode M.2.1 pc = .ok (.lconst n, 1)) (hv : Int64.ofNat (n : Nat) = v) (k : WN X M R w0 cn sn Qf (pc + 1) lv (.long v :: st) ws) : WN X M R w0 cn sn Qf pc lv st ws := by
  intro p e s m args below meth c H locs ls hC hP hD hS hl
  exact lv_lconst hC.1 hC.2.1 hd hv (k p e s m args below meth c H locs _ hC hP hD hS hl)
theorem wn_dup {v : Value} (hd : decode M.2.1 pc = .ok (.dup, 1)) (hv : v.category = 1) (k : WN X M R w0 cn sn Qf (pc + 1) lv (v :: v :: st) ws) : WN X M R w0 cn sn Qf pc lv (v :: st) ws := by
  intro p e s m args below meth c H locs ls hC hP hD hS hl
  exact lv_dup hC.1 hC.2.1 hd hv (k p e s m args below meth c H locs _ hC hP hD hS hl)
theorem wn_ldcS {idx q : Nat} {tx : String} (hd : decode M.2.1 pc = .ok (.ldc idx, 2)) (hw : (M.1.cls, idx, tx, q) ∈ srL) (k : WN X M R w0 cn sn Qf (pc + 2) lv (.ref (adr X q) :: st) ws) : WN X M R w0 cn sn Qf pc lv st ws := by
  intro p e s m args below meth c H locs ls hC hP hD hS hl
  exact va_ldcS hC.1 hC.2.1 hC.2.2.2.2.1 (hC.2.2.2.2.2.2.2.1.2.1 _ hw) hd (k p e s m args below meth c H locs _ hC hP hD hS hl)
theorem wn_objInit {idx r : Nat} (hd : decode M.2.1 pc = .ok (.invokespecial idx, 3)) (hw : Cond.methodLink M.1.cls idx Lib.objectInit ∈ wsG) (hf : 1 ≤ R.frames) (hrm : (st.map fun v => v.category).sum ≤ 8) (hlo : 20 ≤ R.locals) (k : WN X M R w0 cn sn Qf (pc + 3) lv st ws) : WN X M R w0 cn sn Qf pc lv (.ref r :: st) ws := by
  intro p e s m args below meth c H locs ls hC hP hD hS hl
  have hts := hC.2.2.2.2.2.1
  exact W.objInit hC.1 hC.2.1 hC.2.2.2.2.1 (hts _ (wsM_G hw)) (hts _ (wsM_G kobI)) (hts _ (wsM_G kobC)) rfl (hl.1.trans hC.2.2.2.1.symm) rfl hd hf (Nat.le_trans (Nat.add_le_add_right (lv_room hrm) 12) hlo) (k p e s m args below meth c H locs _ hC hP hD hS hl)
theorem wn_new {idx ci N : Nat} {fs : List Value} (hd : decode M.2.1 pc = .ok (.new idx, 3)) (hm : MN M.1.cls idx ci fs N) (hcl : cn + 1 ≤ R.cells) (hsl : sn + N ≤ R.slots) (k : ∀ a : Nat, WN X M R w0 (cn + 1) (sn + N) Qf (pc + 3) lv (.ref a :: st) (ws ++ [(a, .inr (ci, fs))])) : WN X M R w0 cn sn Qf pc lv st ws := by
  intro p e s m args below meth c H locs ls hC hP hD hS hl
  obtain ⟨q, ty, hq, rfl, w1, w2, w3, hty, rfl⟩ := hm
  have hts := hC.2.2.2.2.2.1
  refine va_new (ci := ci) (C := q.1) (T := q.2.1) (N := q.2.2) hC.1 hC.2.1 hts (fun w hw => wsM_G (cls_in hq w hw)) ty hty hC.2.2.2.2.1 (hts _ (wsM_G w1)) (hts _ (wsM_G w2)) (hts _ (wsM_G w3)) hC.2.2.2.2.2.2.2.1.1 hP hD hS (fun _ h9 => Or.inr h9) hq (fun j hj => ?_) hcl hsl hd (fun a H1 hP1 hD1 hS1 => k a p e s m args below meth c H1 locs _ hC hP1 hD1 hS1 hl)
  unfold vp_V
  rw [List.getD_eq_getElem?_getD, List.getElem?_map, List.getElem?_range hj]
  rfl
theorem wn_newI {n : Int} {N : Nat} (hd : decode M.2.1 pc = .ok (.newarray .int, 2)) (h0 : 0 ≤ n ∧ n < 100000) (hN : n.toNat = N) (hc : cn + 1 ≤ R.cells) (hs : sn + N ≤ R.slots) (k : ∀ a : Nat, WN X M R w0 (cn + 1) (sn + N) Qf (pc + 2) lv (.ref a :: st) (ws ++ [(a, .inl (X.2.2.1 0, N, .inl (fun _ => iI 0)))])) : WN X M R w0 cn sn Qf pc lv (.int (iI n) :: st) ws := by
  intro p e s m args below meth c H locs ls hC hP hD hS hl
  have hts := hC.2.2.2.2.2.1
  have hK := hC.2.2.2.2.2.2.2.1.1
  obtain ⟨c1, c2⟩ := iI_clamp (n := 100000) h0.1 h0.2 (by omega)
  refine va_newa (atype := .int) (a0 := (N, .inl (fun _ => iI 0))) hC.1 hC.2.1 (hts _ (wsM_G karI)) rfl hK hP hD hS (fun _ h9 => Or.inr h9) (fun _ => rfl) (fun q => c1 (Or.inl q)) (c2.trans hN) (by show N * 4 ≤ 536870912; omega) hc hs hd (fun a cA H1 hK1 hP1 hD1 hS1 => ?_)
  have he : cA = X.2.2.1 0 := va_RA_one (hK1.2 4 _ rfl).2 (hK.2 0 _ rfl).2
  rw [he] at hP1 hD1
  exact k a p e s m args below meth c H1 locs _ hC hP1 hD1 hS1 hl
theorem wn_newB {n : Int} {N : Nat} (hd : decode M.2.1 pc = .ok (.newarray .byte, 2)) (h0 : 0 ≤ n ∧ n < 100000) (hN : n.toNat = N) (hc : cn + 1 ≤ R.cells) (hs : sn + N ≤ R.slots) (k : ∀ a : Nat, WN X M R w0 (cn + 1) (sn + N) Qf (pc + 2) lv (.ref a :: st) (ws ++ [(a, .inl (X.2.2.1 1, N, .inl (fun _ => iI 0)))])) : WN X M R w0 cn sn Qf pc lv (.int (iI n) :: st) ws := by
  intro p e s m args below meth c H locs ls hC hP hD hS hl
  have hts := hC.2.2.2.2.2.1
  have hK := hC.2.2.2.2.2.2.2.1.1
  obtain ⟨c1, c2⟩ := iI_clamp (n := 100000) h0.1 h0.2 (by omega)
  refine va_newa (atype := .byte) (a0 := (N, .inl (fun _ => iI 0))) hC.1 hC.2.1 (hts _ (wsM_G karB)) rfl hK hP hD hS (fun _ h9 => Or.inr h9) (fun _ => rfl) (fun q => c1 (Or.inl q)) (c2.trans hN) (by show N * 1 ≤ 536870912; omega) hc hs hd (fun a cA H1 hK1 hP1 hD1 hS1 => ?_)
  have he : cA = X.2.2.1 1 := va_RA_one (hK1.2 4 _ rfl).2 (hK.2 1 _ rfl).2
  rw [he] at hP1 hD1
  exact k a p e s m args below meth c H1 locs _ hC hP1 hD1 hS1 hl
theorem wn_newL {n : Int} {N : Nat} (hd : decode M.2.1 pc = .ok (.newarray .long, 2)) (h0 : 0 ≤ n ∧ n < 100000) (hN : n.toNat = N) (hc : cn + 1 ≤ R.cells) (hs : sn + N ≤ R.slots) (k : ∀ a : Nat, WN X M R w0 (cn + 1) (sn + N) Qf (pc + 2) lv (.ref a :: st) (ws ++ [(a, .inl (X.2.2.1 2, N, .inr (.inl (fun _ => 0))))])) : WN X M R w0 cn sn Qf pc lv (.int (iI n) :: st) ws := by
  intro p e s m args below meth c H locs ls hC hP hD hS hl
  have hts := hC.2.2.2.2.2.1
  have hK := hC.2.2.2.2.2.2.2.1.1
  obtain ⟨c1, c2⟩ := iI_clamp (n := 100000) h0.1 h0.2 (by omega)
  refine va_newa (atype := .long) (a0 := (N, .inr (.inl (fun _ => 0)))) hC.1 hC.2.1 (hts _ (wsM_G karL)) rfl hK hP hD hS (fun _ h9 => Or.inr h9) (fun _ => rfl) (fun q => c1 (Or.inl q)) (c2.trans hN) (by show N * 8 ≤ 536870912; omega) hc hs hd (fun a cA H1 hK1 hP1 hD1 hS1 => ?_)
  have he : cA = X.2.2.1 2 := va_RA_one (hK1.2 4 _ rfl).2 (hK.2 2 _ rfl).2
  rw [he] at hP1 hD1
  exact k a p e s m args below meth c H1 locs _ hC hP1 hD1 hS1 hl
theorem wn_anew {idx N : Nat} {n : Int} (hd : decode M.2.1 pc = .ok (.anewarray idx, 3)) (hw : Cond.classLink M.1.cls idx RX8 ∈ wsG) (h0 : 0 ≤ n ∧ n < 100000) (hN : n.toNat = N) (hc : cn + 1 ≤ R.cells) (hs : sn + N ≤ R.slots) (k : ∀ a : Nat, WN X M R w0 (cn + 1) (sn + N) Qf (pc + 3) lv (.ref a :: st) (ws ++ [(a, .inl (X.2.2.1 3, N, .inr (.inr (.inr (.inr (fun _ => none))))))])) : WN X M R w0 cn sn Qf pc lv (.int (iI n) :: st) ws := by
  intro p e s m args below meth c H locs ls hC hP hD hS hl
  have hts := hC.2.2.2.2.2.1
  have hK := hC.2.2.2.2.2.2.2.1.1
  obtain ⟨c1, c2⟩ := iI_clamp (n := 100000) h0.1 h0.2 (by omega)
  refine va_newq (C := RX8) hC.1 hC.2.1 hC.2.2.2.2.1 (hts _ (wsM_G hw)) hC.2.2.2.2.2.2.2.1.2.2.1 hK hP hD hS (fun _ h9 => Or.inr h9) (fun q => c1 (Or.inl q)) (c2.trans hN) (by omega) hc hs hd (fun a cA H1 hK1 hP1 hD1 hS1 => ?_)
  have he : cA = X.2.2.1 3 := va_RA_one (hK1.2 4 _ rfl).2 (hK.2 3 _ rfl).2
  rw [he] at hP1 hD1
  exact k a p e s m args below meth c H1 locs _ hC hP1 hD1 hS1 hl
theorem wn_put {idx ci j a q0 : Nat} {ty : FieldType} {v : Value} {fs : List Value} (hd : decode M.2.1 pc = .ok (.putfield idx, 3)) (hf : PL M.1.cls idx ci j ty) (he : ws[q0]? = some (a, .inr (ci, fs))) (hn : narrow ty v = v) (hfit : fits ty v = true) (hl0 : j < fs.length) (k : WN X M R w0 cn sn Qf (pc + 3) lv st (ws.set q0 (a, .inr (ci, fs.set j v)))) : WN X M R w0 cn sn Qf pc lv (v :: .ref a :: st) ws := by
  intro p e s m args below meth c H locs ls hC hP hD hS hl
  obtain ⟨q, hq, hj, hw, hfin, hty⟩ := hf
  obtain ⟨ty0, h1, h2⟩ := cls_ty hq
  exact va_put (C := q.1) (T := q.2.1) (N := q.2.2) hC.1 hC.2.1 hC.2.2.2.2.2.1 (fun w hw => wsM_G (cls_in hq w hw)) ty0 h1 h2 hC.2.2.2.2.1 hC.2.2.2.2.2.2.2.1.1 hP hD hS q0 he hq j hj (hC.2.2.2.2.2.1 _ (wsM_G hw)) (fun _ h9 => h9) hfin hty hn hfit hl0 hd (fun H1 locs1 hP1 hD1 hS1 => k p e s m args below meth c H1 locs1 _ hC hP1 hD1 hS1 hl)
theorem wn_putF {idx ci j a q0 : Nat} {ty : FieldType} {v : Value} {fs : List Value} (hd : decode M.2.1 pc = .ok (.putfield idx, 3)) (hi : M.1.name = "<init>") (hf : PF M.1.cls idx ci j ty) (he : ws[q0]? = some (a, .inr (ci, fs))) (hn : narrow ty v = v) (hfit : fits ty v = true) (hl0 : j < fs.length) (k : WN X M R w0 cn sn Qf (pc + 3) lv st (ws.set q0 (a, .inr (ci, fs.set j v)))) : WN X M R w0 cn sn Qf pc lv (v :: .ref a :: st) ws := by
  intro p e s m args below meth c H locs ls hC hP hD hS hl
  obtain ⟨q, hq, hj, hw, hfin, hdc, hty⟩ := hf
  obtain ⟨ty0, h1, h2⟩ := cls_ty hq
  exact va_putF (C := q.1) (T := q.2.1) (N := q.2.2) hC.1 hC.2.1 hC.2.2.2.2.2.1 (fun w hw => wsM_G (cls_in hq w hw)) ty0 h1 h2 hC.2.2.2.2.1 hC.2.2.2.2.2.2.2.1.1 hP hD hS q0 he hq j hj (hC.2.2.2.2.2.1 _ (wsM_G hw)) (fun _ h9 => h9) hfin (hC.2.2.2.2.2.2.2.2 hi) hdc hty hn hfit hl0 hd (fun H1 locs1 hP1 hD1 hS1 => k p e s m args below meth c H1 locs1 _ hC hP1 hD1 hS1 hl)
theorem wn_get {idx ci j a q0 : Nat} {v : Value} {fs : List Value} (hd : decode M.2.1 pc = .ok (.getfield idx, 3)) (hf : FL M.1.cls idx ci j) (he : ws[q0]? = some (a, .inr (ci, fs))) (hv : fs[j]? = some v) (k : WN X M R w0 cn sn Qf (pc + 3) lv (v :: st) ws) : WN X M R w0 cn sn Qf pc lv (.ref a :: st) ws := by
  intro p e s m args below meth c H locs ls hC hP hD hS hl
  obtain ⟨q, hq, hj, hw⟩ := hf
  exact va_get (C := q.1) (T := q.2.1) (N := q.2.2) hC.1 hC.2.1 hC.2.2.2.2.2.1 (fun w hw => wsM_G (cls_in hq w hw)) hC.2.2.2.2.1 hC.2.2.2.2.2.2.2.1.1 hP q0 he hq j hj (hC.2.2.2.2.2.1 _ (wsM_G hw)) (fun _ h9 => h9) hv hd (k p e s m args below meth c H locs _ hC hP hD hS hl)
theorem wn_alen {a q0 n : Nat} {f : Nat → Option Nat} (hd : decode M.2.1 pc = .ok (.arraylength, 1)) (he : ws[q0]? = some (a, .inl (X.2.2.1 3, n, .inr (.inr (.inr (.inr f)))))) (k : WN X M R w0 cn sn Qf (pc + 1) lv (.int (iI n) :: st) ws) : WN X M R w0 cn sn Qf pc lv (.ref a :: st) ws := by
  intro p e s m args below meth c H locs ls hC hP hD hS hl
  exact va_alen hC.1 hC.2.1 hC.2.2.2.2.2.2.2.1.1 hP q0 3 he rfl (ofNat_iI n) hd (k p e s m args below meth c H locs _ hC hP hD hS hl)
theorem wn_astq {a v q0 qk n : Nat} {i : Int} {f : Nat → Option Nat} {vs : List Value} (hd : decode M.2.1 pc = .ok (.aastore, 1)) (he : ws[q0]? = some (a, .inl (X.2.2.1 3, n, .inr (.inr (.inr (.inr f)))))) (hv : ws[qk]? = some (v, .inr (8, vs))) (h0 : 0 ≤ i) (h1 : i < n) (hn : n < 100000) (k : WN X M R w0 cn sn Qf (pc + 1) lv st (ws.set q0 (a, .inl (X.2.2.1 3, n, .inr (.inr (.inr (.inr (va_up f i.toNat (some v))))))))) : WN X M R w0 cn sn Qf pc lv (.ref v :: .int (iI i) :: .ref a :: st) ws := by
  intro p e s m args below meth c H locs ls hC hP hD hS hl
  obtain ⟨c1, c2⟩ := iI_clamp h0 h1 (by omega)
  refine va_astq (r := vwCl[8]) hC.1 hC.2.1 hC.2.2.2.2.2.2.2.1.1 hP hD hS q0 3 qk 8 he rfl hv rfl c1 hd (fun H1 locs1 hP1 hD1 hS1 => ?_)
  rw [c2] at hP1 hD1
  exact k p e s m args below meth c H1 locs1 _ hC hP1 hD1 hS1 hl
theorem wn_istore_n {n : Fin 4} {a : Int} (hd : decode M.2.1 pc = .ok (.istore_n n, 1)) (hn : (n : Nat) < M.2.2.1) (k : WN X M R w0 cn sn Qf (pc + 1) (lvS lv n (.int (iI a))) st ws) : WN X M R w0 cn sn Qf pc lv (.int (iI a) :: st) ws := by
  intro p e s m args below meth c H locs ls hC hP hD hS hl
  exact lv_istore_n hC.1 hC.2.1 hd rfl hl hn rfl (fun ls hl => k p e s m args below meth c H locs _ hC hP hD hS hl)
theorem wn_astore_n {n : Fin 4} {r : Nat} (hd : decode M.2.1 pc = .ok (.astore_n n, 1)) (hn : (n : Nat) < M.2.2.1) (k : WN X M R w0 cn sn Qf (pc + 1) (lvS lv n (.ref r)) st ws) : WN X M R w0 cn sn Qf pc lv (.ref r :: st) ws := by
  intro p e s m args below meth c H locs ls hC hP hD hS hl
  exact lv_astore_n hC.1 hC.2.1 hd rfl hl hn rfl (fun ls hl => k p e s m args below meth c H locs _ hC hP hD hS hl)
theorem wn_iinc {i : Nat} {n a : Int} (hd : decode M.2.1 pc = .ok (.iinc i n, 3)) (hg : lvGet lv i = some (.int (iI a))) (hn : i < M.2.2.1) (k : WN X M R w0 cn sn Qf (pc + 3) (lvS lv i (.int (iI (a + n)))) st ws) : WN X M R w0 cn sn Qf pc lv st ws := by
  intro p e s m args below meth c H locs ls hC hP hD hS hl
  obtain ⟨j, hj⟩ := List.getElem?_of_mem (lvGet_mem hg)
  exact lv_iinc hC.1 hC.2.1 hd hl hj (iI_add a n) hn rfl (fun ls hl => k p e s m args below meth c H locs _ hC hP hD hS hl)
theorem wn_vret {b : Nat} {d0 : va_E} {wf : List Nat → va_W} {mc ms : Nat} (hd : decode M.2.1 pc = .ok (.return_, 1)) (hr : M.2.2.2 = none) (h1 : cn ≤ mc) (h2 : sn ≤ ms) (qs : List Nat) (hw : ws = wf qs) : WN X M R [(b, d0)] cn sn (QN X d0 b wf mc ms) pc lv [] ws := by
  intro p e s m args below meth c H locs ls hC hP hD hS hl
  subst hw
  exact W.widen h1 h2 (W.vret hC.1 hC.2.1 (hC.2.2.1.trans hr) (fun t ht _ => ⟨⟨qs, rfl, trivial, by rw [ht]; exact hP, hD⟩, hS.F ht⟩) hS.2.2 hd hC.2.2.2.2.2.2.1)
theorem wn_loc (lv' : List (Nat × Value)) (ho : lvOk lv lv') (k : WN X M R w0 cn sn Qf pc lv' st ws) : WN X M R w0 cn sn Qf pc lv st ws := by
  intro p e s m args below meth c H locs ls hC hP hD hS hl
  exact k p e s m args below meth c H locs ls hC hP hD hS ⟨hl.1, hl.2.1, fun q hq => lvGet_at hl (lvOk_mem ho q hq)⟩
theorem wn_goto {off : Int} (tgt : Nat) (hd : decode M.2.1 pc = .ok (.goto off, 3)) (ht : (pc : Int) + off = (tgt : Int)) (k : WN X M R w0 cn sn Qf tgt lv st ws) : WN X M R w0 cn sn Qf pc lv st ws := by
  intro p e s m args below meth c H locs ls hC hP hD hS hl
  exact lv_goto hC.1 hC.2.1 hd ht (k p e s m args below meth c H locs _ hC hP hD hS hl)
theorem wn_icmpge {a b : Int} {off : Int} (tgt : Nat) (hd : decode M.2.1 pc = .ok (.if_icmp .ge off, 3)) (ht : (pc : Int) + off = (tgt : Int)) (ha : InR a) (hb : InR b) (kt : b ≤ a → WN X M R w0 cn sn Qf tgt lv st ws) (kf : ¬ (b ≤ a) → WN X M R w0 cn sn Qf (pc + 3) lv st ws) : WN X M R w0 cn sn Qf pc lv (.int (iI b) :: .int (iI a) :: st) ws := by
  intro p e s m args below meth c H locs ls hC hP hD hS hl
  refine lv_icmp_ge hC.1 hC.2.1 hd ht ?_ ?_
  · intro q
    exact kt ((iI_le hb ha).mp q) p e s m args below meth c H locs _ hC hP hD hS hl
  · intro q
    exact kf (fun z => q ((iI_le hb ha).mpr z)) p e s m args below meth c H locs _ hC hP hD hS hl
theorem pn_blind {b sz : Nat} {d0 : va_E} : FrameBlind (va_Pc [.ref b] (PN X d0 b sz)) := by
  intro a U g mk q
  obtain ⟨q0, q1, qP, qG⟩ := q
  exact ⟨q0, q1, qP, GN.call qG rfl⟩
theorem wn_run {p : Program} {e : Env} {s : State} {m : MethodId} {args : Array Value} {below : List Frame} {meth : Method} {c : Code} {H : Heap} {locs : List Loc} {ls : Array Slot} {rest st0 : List Value} {av : Array Value} {b mc ms : Nat} {d0 : va_E} {wr : va_W} {wf : List Nat → va_W} (hC : WCn X M p s m args meth c) (hP : va_P X.2.1 vwCl (wr ++ [(b, d0)]) H) (hD : va_D (va_A w0 s.heap.size) (wr ++ [(b, d0)])) (hS : va_S (va_A w0 s.heap.size) s.heap H locs) (hl : lv_has ls M.2.2.1 lv)
    (hr : va_Run p X.1 e R s m args below meth c H locs cn sn mc ms (F0 m pc ls st0) rest (va_Qv (fun _ : List Nat => True) (BN X d0 b H.size wf) (va_A [(b, d0)] H.size) av) (va_A [(b, d0)] H.size)) (k : ∀ qs : List Nat, WN X M R w0 (cn + mc) (sn + ms) Qf (pc + 3) lv rest (wr ++ wf qs)) : W p X.1 e R s m args below meth c H locs cn sn (Qf s args below) (F0 m pc ls st0) := by
  have hF : ∀ q, va_A [(b, d0)] H.size q → va_A w0 s.heap.size q := by
    intro q h
    rcases h with ⟨j, e9, hj⟩ | h
    · have hb : q = b := by
        match j, hj with
        | 0, hj => exact (congrArg Prod.fst (Option.some.inj hj)).symm
        | n + 1, hj => simp at hj
      rw [hb]
      exact hD.2 wr.length (b, d0) (by rw [List.getElem?_append_right (Nat.le_refl _), Nat.sub_self]; rfl)
    · exact Or.inr (Nat.le_trans hS.1 h)
  refine va_callv hr hS (fun q _ h => hF q h) hF (fun qs t H1 locs1 ht hvm _ hB hz1 hk1 hS1 => ?_)
  obtain ⟨hP1, hD1⟩ := hB
  rw [ht] at hP1
  obtain ⟨hP2, hD2⟩ := gr_join hP hD hk1 hF hP1 hD1
  exact k qs p e s m args below meth c H1 locs1 _ hC hP2 hD2 hS1 hl
theorem pn_at {p : Program} {s : State} {m : MethodId} {args : Array Value} {meth : Method} {c : Code} {H : Heap} {wr : va_W} {b : Nat} {d0 : va_E} (hC : WCn X M p s m args meth c) (hP : va_P X.2.1 vwCl (wr ++ [(b, d0)]) H) : ∀ U : State, U.heap = H → s.WarmedH U.vm → va_Pc [.ref b] (PN X d0 b H.size) [Value.ref b].toArray U := by
  intro U hU hW
  subst hU
  refine ⟨rfl, rfl, fun k q hk => ?_, GN.go hC.2.2.2.2.2.2.2.1 hW⟩
  match k, hk with
  | 0, hk => cases hk; exact hP wr.length _ (by rw [List.getElem?_append_right (Nat.le_refl _), Nat.sub_self]; rfl)
  | n + 1, hk => simp at hk
/-- room for a constructor -/
def RmC (R rm : Room) (cn sn mc ms n : Nat) : Prop := (rm.frames + 1 ≤ R.frames ∧ 8 + (n + 11) + rm.locals ≤ R.locals) ∧ cn + mc ≤ R.cells ∧ sn + ms ≤ R.slots
theorem wn_callI {idx b mc ms : Nat} {d0 : va_E} {wr : va_W} {wf : List Nat → va_W} {rm : Room} (hd : decode M.2.1 pc = .ok (.invokespecial idx, 3)) (hw : Cond.methodLink M.1.cls idx M2.1 ∈ wsG) (hm : MI M2) (hsp : SpecN X M2 rm mc ms d0 b wf) (h1 : rm.cells = mc) (h2 : rm.slots = ms) (hR : RmC R rm cn sn mc ms M2.2.2.1) (hrm : (st.map fun v => v.category).sum ≤ 8) (k : ∀ qs : List Nat, WN X M R w0 (cn + mc) (sn + ms) Qf (pc + 3) lv st (wr ++ wf qs)) : WN X M R w0 cn sn Qf pc lv (.ref b :: st) (wr ++ [(b, d0)]) := by
  intro p e s m args below meth c H locs ls hC hP hD hS hl
  obtain ⟨w1, w3, w4, w5, w6, w7⟩ := hm
  have hts := hC.2.2.2.2.2.1
  have w4' : Cond.code M2.1 M2.2.1 M2.2.2.1 M2.2.2.2 ∈ wsG := by rw [w5]; exact w4
  refine wn_run hC hP hD hS hl (va_runI (As := []) (rest := st) (bytes := M2.2.1) (maxL := M2.2.2.1) ⟨hC.1, hC.2.1, hC.2.2.2.1, hC.2.2.2.2.1, hts⟩ (hsp H.size) (cwI (ws' := wsG) 0 hts (goodM w4') (by unfold wsM; rw [w5]) h1 h2 (hts _ (wsM_G w3)) (hts _ (wsM_G hw)) (hts _ (wsM_G w1)) w6 w7 hR.1) ⟨pn_blind, fun U hU hW => pn_at hC hP U hU hW⟩ rfl rfl hl.1 rfl (lv_room hrm) hd hR.2) k
theorem wn_callN {idx b mc ms : Nat} {d0 : va_E} {wr : va_W} {wf : List Nat → va_W} {rm : Room} (hd : decode M.2.1 pc = .ok (.invokespecial idx, 3)) (hM : M.1.cls = RX10) (hw : (idx, M2.1) ∈ nwL) (hm : MI M2) (hsp : SpecN X M2 rm mc ms d0 b wf) (h1 : rm.cells = mc) (h2 : rm.slots = ms) (hR : RmC R rm cn sn mc ms M2.2.2.1) (hrm : (st.map fun v => v.category).sum ≤ 8) (k : ∀ qs : List Nat, WN X M R w0 (cn + mc) (sn + ms) Qf (pc + 3) lv st (wr ++ wf qs)) : WN X M R w0 cn sn Qf pc lv (.ref b :: st) (wr ++ [(b, d0)]) := by
  intro p e s m args below meth c H locs ls hC hP hD hS hl
  obtain ⟨w1, w3, w4, w5, w6, w7⟩ := hm
  have hts := hC.2.2.2.2.2.1
  have w4' : Cond.code M2.1 M2.2.1 M2.2.2.1 M2.2.2.2 ∈ wsG := by rw [w5]; exact w4
  have hnw : va_Nw (.methodLinkNest M.1.cls idx M2.1 RX10) s := by rw [hM]; exact hC.2.2.2.2.2.2.2.1.2.2.2 _ hw
  refine wn_run hC hP hD hS hl (va_runIN (As := []) (rest := st) (bytes := M2.2.1) (maxL := M2.2.2.1) ⟨hC.1, hC.2.1, hC.2.2.2.1, hC.2.2.2.2.1, hts⟩ (hsp H.size) ⟨va_cnB (ws' := wsG) 0 hts (goodM w4') (by unfold wsM; rw [w5]) h1 h2 hnw (hts _ (wsM_G w3)) w7 hR.1, w6, hts _ (wsM_G w1)⟩ ⟨pn_blind, fun U hU hW => pn_at hC hP U hU hW⟩ rfl rfl hl.1 rfl (lv_room hrm) hd hR.2) k
end Grow
