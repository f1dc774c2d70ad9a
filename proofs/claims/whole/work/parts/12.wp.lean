/-! the judgement over cells by number: WP (a place in a method), Spec (a method) -/
def wsM (M : Mt) : List Cond := Cond.code M.1 M.2.1 M.2.2.1 M.2.2.2 :: wsG
theorem wsM_G {M : Mt} {w : Cond} (h : w ∈ wsG) : w ∈ wsM M := List.mem_cons_of_mem _ h
theorem goodM {M M2 : Mt} (hc : Cond.code M2.1 M2.2.1 M2.2.2.1 M2.2.2.2 ∈ wsG) : GoodIn (wsM M) (wsM M2) := by
  intro w hw
  have h1 : w ∈ wsG := by
    rcases List.mem_cons.mp hw with rfl | h
    · exact hc
    · exact h
  exact ⟨wsM_G h1, good_of_word (List.mem_filter.mp h1).2⟩
def rmD (d : Nat) : Room := { frames := d, cells := 0, slots := 0, locals := 64 * d }
def tys (X : Cx) : List (ClassId × FieldType) := [(X.2.2.1 0, .int), (X.2.2.1 1, .byte), (X.2.2.1 2, .long), (X.2.2.1 3, .object RX8)]
def stL : List (String × Nat) := [("TABLE_LEAST", 101), ("TABLE_MOST", 102), ("CARD_LEAST", 103), ("CARD_MOST", 104)]
/-- String constants: class, entry, text, number -/
def srL : List (String × Nat × String × Nat) := [(RX4, 76, "awxyz", 110), (RX4, 97, "tn", 111), (RX11, 26, "y", 112), (RX11, 32, "gptsn", 113), (RX11, 250, "awxyz", 110), (RX11, 256, "tn", 111)]
def slen : List Nat := [5, 2, 1, 5]
def sbyt : List (List Int32) := [[97, 119, 120, 121, 122], [116, 110], [121], [103, 112, 116, 115, 110]]
/-- what is only read: int arrays, statics, texts; and the two links between nest mates -/
def EXT (X : Cx) (A : Nat → Prop) (U : State) (H : Heap) : Prop :=
  (∀ q ∈ X.2.2.2.2, va_T .int (adr X q.1) q.2.1 (fun j => .int (iI (q.2.2 j))) A U H) ∧
  (∀ z ∈ stL, va_Z RX4 z.1 "[I" (.ref (adr X z.2)) A U H) ∧
  va_Z "java/lang/String" "COMPACT_STRINGS" "Z" (.int 1) A U H ∧
  vk_S 4 slen sbyt (fun i => adr X (110 + i)) (fun i => adr X (120 + i)) A U H ∧
  (∀ z ∈ srL, vk_R z.1 z.2.1 z.2.2.1 (adr X z.2.2.2) U) ∧
  va_Nw (.methodLinkNest RX3 44 yX10_isLeg RX10) U ∧ va_Nw (.methodLinkNest RX6 52 yX10_common RX10) U ∧
  va_Zq "jdk/internal/util/Preconditions" "SIOOBE_FORMATTER" "Ljava/util/function/BiFunction;" A U H ∧
  vx_Zq Bundle.tN "UNASSIGNED_STACK" Bundle.steD A U H ∧ vx_Zq Bundle.tN "SUPPRESSED_SENTINEL" Bundle.listD A U H
theorem EXT.go {X : Cx} {A B : Nat → Prop} {u U : State} {H H1 : Heap} (h : EXT X A u H) (hW : u.WarmedH U.vm) (hq : ∀ a : Nat, a < H.size → ¬ A a → H1[a]? = H[a]?) (hAB : ∀ q, B q → A q) : EXT X B U H1 := by
  obtain ⟨h1, h2, h3, h4, h5, h6, h7, h8, h9, h10⟩ := h
  have hv := hW.alike
  exact ⟨fun q hm => (((h1 q hm).moved hv).kept hq).narrow hAB, fun z hz => (((h2 z hz).moved hv).kept hq).narrow hAB, ((h3.moved hv).kept hq).narrow hAB, ((h4.moved hv).kept hq).narrow hAB, fun z hz => (h5 z hz).warm hW, h6.warmM hW, h7.warmM hW, ((h8.moved hv).kept hq).narrow hAB, ((h9.moved hv).kept hq).narrow hAB, ((h10.moved hv).kept hq).narrow hAB⟩
theorem EXT.call {X : Cx} {A : Nat → Prop} {u U : State} {H : Heap} (h : EXT X A u H) (hv : U.vm = u.vm) : EXT X A U H := by
  obtain ⟨h1, h2, h3, h4, h5, h6, h7, h8, h9, h10⟩ := h
  have ha : u.vm.Alike U.vm := by rw [hv]; exact Vm.Alike.refl _
  exact ⟨fun q hm => (h1 q hm).moved ha, fun z hz => (h2 z hz).moved ha, h3.moved ha, h4.moved ha, fun z hz => (h5 z hz).same hv, va_Nw.same rfl hv.symm h6, va_Nw.same rfl hv.symm h7, h8.moved ha, h9.moved ha, h10.moved ha⟩
/-- what holds of the machine all through a body -/
def WC (X : Cx) (M : Mt) (p : Program) (s : State) (m : MethodId) (args : Array Value) (meth : Method) (c : Code) : Prop :=
  p.tables.exec = Jvm.exec ∧ c.code = M.2.1 ∧ meth.sig.returnType = M.2.2.2 ∧ c.maxLocals = M.2.2.1 ∧ s.vm.findClass M.1.cls = some m.cls ∧ (∀ w ∈ wsM M, w.before args s = true) ∧ meth.locks = false ∧ va_K X.2.1 vwCl (tys X) s ∧ EXT X (AW X s.heap.size) s s.heap ∧ inj X
def QP (X : Cx) (Post : Option Value → Hp → Prop) : Array Value → State → Outcome → State → Prop := fun _ st o t =>
  (∃ (r : Option Value) (h : Hp), o = .returned r ∧ Post r h ∧ va_P X.2.1 vwCl (wld X h) t.heap) ∧ va_F (AW X st.heap.size) st t
/-- at a place of a body: any room, any cells made, any end -/
def WG (X : Cx) (M : Mt) (R : Room) (cn sn : Nat) (Qf : State → Array Value → List Frame → State → Prop) (pc : Nat) (lv : List (Nat × Value)) (st : List Value) (h : Hp) : Prop :=
  ∀ (p : Program) (e : Env) (s : State) (m : MethodId) (args : Array Value) (below : List Frame) (meth : Method) (c : Code) (H : Heap) (locs : List Loc) (ls : Array Slot),
    WC X M p s m args meth c → va_P X.2.1 vwCl (wld X h) H → va_S (AW X s.heap.size) s.heap H locs → lv_has ls M.2.2.1 lv →
    W p X.1 e R s m args below meth c H locs cn sn (Qf s args below) (F0 m pc ls st)
def QE (X : Cx) (Post : Option Value → Hp → Prop) : State → Array Value → List Frame → State → Prop := fun s args below => MQ below (QP X Post) args s 0 0 (AW X s.heap.size)
abbrev WP (X : Cx) (M : Mt) (d pc : Nat) (lv : List (Nat × Value)) (st : List Value) (h : Hp) (Post : Option Value → Hp → Prop) : Prop := WG X M (rmD d) 0 0 (QE X Post) pc lv st h
def PW (X : Cx) (h : Hp) (sz : Nat) (U : State) : Prop := U.heap.size = sz ∧ va_P X.2.1 vwCl (wld X h) U.heap ∧ va_K X.2.1 vwCl (tys X) U ∧ EXT X (AW X U.heap.size) U U.heap ∧ inj X
def Spec (X : Cx) (M : Mt) (d : Nat) (av : List Value) (h : Hp) (Post : Option Value → Hp → Prop) : Prop :=
  ∀ sz : Nat, Met X.1 M.1 (wsM M) (rmD d) (va_Pc av (PW X h sz)) (QP X Post) 0 0 (AW X sz)
theorem spec_wp {X : Cx} {M : Mt} {d : Nat} {av : List Value} {h : Hp} {Post : Option Value → Hp → Prop} (hn : (lg_sl av).length ≤ M.2.2.1) (hp : plainName M.1.cls = true) (k : WP X M d 0 (lv_args 0 av) [] h Post) : Spec X M d av h Post := by
  intro sz
  refine Met.ofW (cc := M.2.1) (maxL := M.2.2.1) (ret := M.2.2.2) hp rfl ?_
  intro p e s m args below meth c s₁ B hml hv
  obtain ⟨rfl, hsz, hP, hK, hE, hi⟩ := hv
  subst hsz
  have hts := atoms_spec (ws := wsM M) B.pre
  have hown : s.vm.findClass M.1.cls = some m.cls := findClass_of_methodNamed B.named
  rw [lg_entry_eq]
  exact k p e s m _ below meth c s.heap [] _ ⟨B.exec, B.bytes, B.returns, hml, hown, hts, B.notSynchronized, hK, hE, hi⟩ hP va_S.rf (lv_entry av hn)
theorem spec_mono {X : Cx} {M : Mt} {d : Nat} {av : List Value} {h : Hp} {P Q : Option Value → Hp → Prop} (k : Spec X M d av h P) (hq : ∀ r h', P r h' → Q r h') : Spec X M d av h Q := by
  intro sz p e ha hc hk s m args below hf happ hP hT
  obtain ⟨t, o, h1, h2, h3, ⟨⟨⟨r, h', e1, e2, e3⟩, e4⟩, hL⟩⟩ := k sz p e ha hc hk s m args below hf happ hP hT
  exact ⟨t, o, h1, h2, h3, ⟨⟨⟨r, h', e1, hq r h' e2, e3⟩, e4⟩, hL⟩⟩
theorem wp_mono {X : Cx} {M : Mt} {d pc : Nat} {lv : List (Nat × Value)} {st : List Value} {h : Hp} {P Q : Option Value → Hp → Prop} (k : WP X M d pc lv st h P) (hq : ∀ r h', P r h' → Q r h') : WP X M d pc lv st h Q := by
  intro p e s m args below meth c H locs ls hC hP hS hl T hT XT
  obtain ⟨t, h1, o, h2, h3, ⟨⟨r, h', e1, e2, e3⟩, e4⟩, hL⟩ := k p e s m args below meth c H locs ls hC hP hS hl T hT XT
  exact ⟨t, h1, o, h2, h3, ⟨⟨r, h', e1, hq r h' e2, e3⟩, e4⟩, hL⟩
/-- locals by their number -/
def lvGet : List (Nat × Value) → Nat → Option Value
  | [], _ => none
  | (i, v) :: t, j => match Nat.beq i j with
    | true => some v
    | false => lvGet t j
theorem lvGet_mem : ∀ {l : List (Nat × Value)} {j : Nat} {v : Value}, lvGet l j = some v → (j, v) ∈ l
  | [], _, _, h => by cases h
  | (i, w) :: t, j, v, h => by
    unfold lvGet at h
    split at h
    · rename_i hb
      have := Nat.eq_of_beq_eq_true hb
      subst this
      cases h
      exact List.mem_cons_self
    · exact List.mem_cons_of_mem _ (lvGet_mem h)
theorem lvGet_at {ls : Array Slot} {n : Nat} {l : List (Nat × Value)} (hl : lv_has ls n l) {j : Nat} {v : Value} (h : lvGet l j = some v) : ls[j]? = some (.val v) := hl.2.2 _ (lvGet_mem h)
def lvS (l : List (Nat × Value)) (i : Nat) (v : Value) : List (Nat × Value) := (i, v) :: l.filter (fun q => !(q.1 == i) && !(q.1 + 1 == i && q.2.category == 2))
def lvS2 (l : List (Nat × Value)) (i : Nat) (v : Value) : List (Nat × Value) := (i, v) :: l.filter (fun q => !(q.1 == i) && (!(q.1 == i + 1) && !(q.1 + 1 == i && q.2.category == 2)))
def lvOk (l : List (Nat × Value)) : List (Nat × Value) → Prop
  | [] => True
  | (i, v) :: t => lvGet l i = some v ∧ lvOk l t
theorem lvOk_mem {l : List (Nat × Value)} : ∀ {l' : List (Nat × Value)}, lvOk l l' → ∀ q ∈ l', lvGet l q.1 = some q.2
  | [], _, q, hq => by cases hq
  | (i, v) :: t, h, q, hq => by
    rcases List.mem_cons.mp hq with rfl | hq
    · exact h.1
    · exact lvOk_mem h.2 q hq
section Rules
variable {X : Cx} {M M2 : Mt} {R : Room} {cn sn pc : Nat} {Qf : State → Array Value → List Frame → State → Prop} {lv : List (Nat × Value)} {st : List Value} {h : Hp}
theorem wp_loc (lv' : List (Nat × Value)) (ho : lvOk lv lv') (k : WG X M R cn sn Qf pc lv' st h) : WG X M R cn sn Qf pc lv st h := by
  intro p e s m args below meth c H locs ls hC hP hS hl
  exact k p e s m args below meth c H locs ls hC hP hS ⟨hl.1, hl.2.1, fun q hq => lvGet_at hl (lvOk_mem ho q hq)⟩
end Rules
