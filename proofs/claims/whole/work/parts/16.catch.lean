/-! a throw that the first row of the method's own table takes, its class resolved by then or not (out of ThrowLaws, Cold and Stand) -/
section HCA
/-- the search: the first row holds the place, its class links and fits -/
theorem hc_find {e : Env} {S : State} {f : JFrame} {q : Addr} {meth : Method} {c : Code} {x : ExceptionTableEntry} {suf : List ExceptionTableEntry} {k : ClassId} {ce : Cell} {Q : Handler → Pre} {E : CtlPost} {d : Bool} {acts : List Action}
    (hm : S.vm.method? f.method = some meth) (hc : meth.code = some c) (hrow : c.exceptionTable.toList = x :: suf) (hx : covers x f.pc = true) (h0 : x.catchType ≠ 0)
    (hl : S.vm.ClassLinks e.platform f.method.cls x.catchType k) (hcell : S.heap[q]? = some ce) (hobj : ∀ j, ce.vm ≠ .statics j)
    (hk1 : ∃ z, (S.vm.noted f.method.cls x.catchType (.cls k)).classes[ce.cls]? = some z) (hk2 : ∃ z, (S.vm.noted f.method.cls x.catchType (.cls k)).classes[k]? = some z)
    (hfit : (S.vm.noted f.method.cls x.catchType (.cls k)).assignable ce.cls k = true) :
    wp (findHandler f q) Q E e d acts S ↔ Q (.found x.handlerPc) d acts (S.setVm (S.vm.noted f.method.cls x.catchType (.cls k))) := by
  obtain ⟨ha, ht⟩ := (resolveClass_links e.toSetting hl).op (op := VmOp.resolveClass f.method.cls x.catchType) rfl
  have hsz : (S.vm.noted f.method.cls x.catchType (.cls k)).classes.size ≤ S.vm.classes.size := by no_record
  rw [Jvm.W.findHandler_eq hm hc, hrow]
  simp only [covers] at hx
  simp [findHandler.go, hx, h0, ha, ht, hsz, hcell, hobj, hk1, hk2, hfit, VmOp.dirties, VmOp.acts]
/-- one step: the frame goes on at the row's own place, the tables with the row's class noted -/
theorem hc_step {e : Env} {S : State} {q : Addr} {f : JFrame} {r : List Frame} {pc : Nat} {vm' : Vm} (hfind : ∀ (Q : Handler → Pre) (E : CtlPost) (d : Bool) (acts : List Action), wp (findHandler f q) Q E e d acts S ↔ Q (.found pc) d acts (S.setVm vm')) :
    (stepThrowing e S q (.java f :: r)).Is ((S.setVm vm').setFrames (.java { f with pc := pc, stack := [.ref q] } :: r)) [] := by
  simp only [stepThrowing, searchFrame, vmDo]
  generalize hr : Sem.go _ e false [] S = res
  obtain ⟨as, rfl, ha⟩ := Sem.eq_ok_of hr (a := Handler.found pc) (s' := S.setVm vm') (acts' := []) (by simp [hfind _ _ _ _])
  exact ⟨rfl, ha⟩
/-- the walk over it -/
theorem hc_steps {tb : Tables} {e : Env} {T target : State} {g : JFrame} {c : Code} {below : List Frame} {q : Addr} {pc : Nat} {vm' : Vm} (h : At T g.method c below)
    (hfind : ∀ (Q : Handler → Pre) (E : CtlPost) (d : Bool) (acts : List Action), wp (findHandler g q) Q E e d acts ((T.setTop g).pushFrame (.throwing q)) ↔ Q (.found pc) d acts (((T.setTop g).pushFrame (.throwing q)).setVm vm'))
    (hrest : Steps tb e below ((T.setVm vm').setTop { g with pc := pc, stack := [.ref q] }) target) : Steps tb e below ((T.setTop g).pushFrame (.throwing q)) target := by
  obtain ⟨hgo, hw⟩ := h.throwing q
  obtain ⟨g₀, hg⟩ := Option.isSome_iff_exists.mp h.top
  obtain ⟨r, hr⟩ := State.topJava?_eq_some.mp hg
  have hr' : (T.setVm vm').frames = .java g₀ :: r := hr
  refine Steps.head hgo hw ?_
  rw [stepThread_throwing (frames_entered h.top _), (hc_step hfind).1, hr]
  rw [State.setTop_of_frames _ hr'] at hrest
  rw [State.setTop_of_frames _ hr, State.pushFrame, State.setFrames_setFrames]
  show Steps tb e below (((T.setVm vm').setFrames _).setFrames _) target
  rw [State.setFrames_setFrames]
  exact hrest
/-- the law: what is thrown over the frame at pc is taken by the first row of its method's table -/
theorem hc_catch {p : Program} {l : Launch} {e : Env} {R : Room} {s : State} {m : MethodId} {args : Array Value} {below : List Frame} {meth : Method} {c : Code} {T : State} {locs : List Loc} {cells slots : Nat} (X : Stand p l e R s m args below meth c T locs cells slots)
    {g : JFrame} {q : Addr} {ce : Cell} {k : ClassId} {x : ExceptionTableEntry} {suf : List ExceptionTableEntry} (hg : g.method = m) (hrow : c.exceptionTable.toList = x :: suf) (hx : covers x g.pc = true) (h0 : x.catchType ≠ 0)
    (hl : s.vm.ClassLinks e.platform m.cls x.catchType k) (hcell : T.heap[q]? = some ce) (hv : ce.vm = .none) (hk : ∃ z, s.vm.classes[ce.cls]? = some z) (hfit : s.vm.assignable ce.cls k = true) :
    ∃ vm', Stand p l e R s m args below meth c (T.setVm vm') locs cells slots ∧
      ∀ target, Steps p.tables e below ((T.setVm vm').setTop { g with pc := x.handlerPc, stack := [.ref q] }) target → Steps p.tables e below ((T.setTop g).pushFrame (.throwing q)) target := by
  subst hg
  obtain ⟨dk, _, _, kt, hd, _, _, _, _, hkt, _, hopen⟩ := hl.here
  have hW : s.WarmedH (T.vm.noted g.method.cls x.catchType (.cls k)) := X.warmed.noted hd hopen (State.rightAt_cls hl)
  obtain ⟨z1, hz1⟩ := hk
  obtain ⟨k1, hk1, -⟩ := hW.alike.2.2 _ _ hz1
  obtain ⟨k2, hk2, -⟩ := hW.alike.2.2 _ _ hkt
  have hmeth : T.vm.method? g.method = some meth := X.method'
  refine ⟨_, X.noted hW, fun target hrest => hc_steps X.here (fun Q E d acts => ?_) hrest⟩
  exact hc_find (S := (T.setTop g).pushFrame (.throwing q)) (meth := meth) hmeth X.code hrow hx h0 (X.warmed.classLinks hl) hcell (fun j hj => by rw [hv] at hj; cases hj) ⟨k1, hk1⟩ ⟨k2, hk2⟩ (by
    show (T.vm.noted g.method.cls x.catchType (.cls k)).assignable ce.cls k = true
    rw [hW.alike.assignable]; exact hfit)
/-- the same over a frame of a walk, by the words of the row's class -/
theorem hc_take {p : Program} {l : Launch} {e : Env} {R : Room} {s : State} {m : MethodId} {args : Array Value} {below : List Frame} {meth : Method} {c : Code} {H : Heap} {locs : List Loc} {cells slots : Nat} {Q : State → Prop} {pc : Nat} {ls : Array Slot} {rest : List Value}
    {own name E : String} {ce : Cell} {q : Addr} {x : ExceptionTableEntry} {suf : List ExceptionTableEntry} (hown : s.vm.findClass own = some m.cls) (hrow : c.exceptionTable.toList = x :: suf) (hx : covers x pc = true) (h0 : x.catchType ≠ 0)
    (hlink : (Cond.classLink own x.catchType name).before args s = true) (hcast : (Cond.castable E name).before args s = true) (hcell : H[q]? = some ce) (hv : ce.vm = .none) (hcl : s.vm.findClass E = some ce.cls)
    (kk : W p l e R s m args below meth c H locs cells slots Q (F0 m x.handlerPc ls [.ref q])) : vx_W p l e R s m args below meth c H locs cells slots Q (F0 m pc ls rest) q := by
  intro T hT X
  obtain ⟨k, hk, hlinks⟩ := Cond.classLink_spec hown hlink e.platform (by rw [X.admits.platform])
  obtain ⟨c1, c2, h1, h2, hfit⟩ := Cond.castable_spec hcast
  cases Option.some.inj (h1.symm.trans hcl)
  cases Option.some.inj (h2.symm.trans hk)
  obtain ⟨vm', X', go⟩ := hc_catch X (g := F0 m pc ls rest) rfl hrow hx h0 hlinks (by rw [hT]; exact hcell) hv (Vm.classAt_of_findClass hcl) hfit
  obtain ⟨t, a1, b1⟩ := kk (T.setVm vm') hT X'
  exact ⟨t, go t a1, b1⟩
end HCA
