/-! the law from its entry -/
def LOk0 (X : Cx) (b : Nat) (s : State) (args : Array Value) : Prop := (∀ w ∈ nbw, w.before args s = true) ∧ args = #[Value.ref b] ∧ EXT X (rA s) s s.heap
theorem law_bridge {l : Launch} {D : va_G} {ty : Nat → ClassId} {hi : Nat → Nat} {L b cn sn : Nat} {xs : Nat → Int32} {a1 a3 a5 : Nat} {q2 q4 : List Nat} (hl0 : l.stackTraces = false) (hL : L ≤ 3072) (h100 : hi 100 = b) (h1 : cn ≤ 600000) (h2 : sn ≤ 7280000) : WN (mkX l D ty hi (extL L xs) []) mL room_1 [] cn sn (QZ (LOk0 (mkX l D ty hi (extL L xs) []) b) LZ) 20 [(0, .ref b), (1, .ref a1), (2, .ref a3), (3, .ref a5)] [] (wsF (mkX l D ty hi (extL L xs) []) a1 q2 a3 q4 a5) := by
  intro p e s m args below meth c H locs ls hC hP hD hS hl T hT XT
  by_cases g : LOk0 (mkX l D ty hi (extL L xs) []) b s args
  · obtain ⟨g1, g2, g3⟩ := g
    have hiD := ws_inj hD
    have lo : ∀ k, k < 71 → s.heap.size ≤ adr (mkX l D ty hi (extL L xs) (csF a1 q2 a3 q4 a5)) k := by
      intro k hk
      rcases hiD.2 k hk with ⟨j, e9, hj⟩ | h9
      · simp at hj
      · exact h9
    have hE : EXT (mkX l D ty hi (extL L xs) (csF a1 q2 a3 q4 a5)) (AW (mkX l D ty hi (extL L xs) (csF a1 q2 a3 q4 a5)) s.heap.size) s s.heap := by
      refine (EXT.to (cs := []) ?_ g3).narrow (fun q hq => ?_)
      · intro q hq
        have h9 : ∀ q ∈ (extL L xs).map (fun z => z.1), 71 ≤ q := by show ∀ q ∈ [100, 101, 102, 103, 104], 71 ≤ q; decide
        exact h9 q.1 (List.mem_map_of_mem hq)
      · rcases hq with ⟨k, hk, rfl⟩ | h9
        · exact lo k hk
        · exact h9
    have hS2 : va_S (AW (mkX l D ty hi (extL L xs) (csF a1 q2 a3 q4 a5)) s.heap.size) s.heap H locs := by
      have sb : ∀ q, va_A [] s.heap.size q → AW (mkX l D ty hi (extL L xs) (csF a1 q2 a3 q4 a5)) s.heap.size q := by
        intro q hq
        rcases hq with ⟨j, e9, hj⟩ | h9
        · simp at hj
        · exact Or.inr h9
      exact ⟨hS.1, fun q z1 z2 => hS.2.1 q z1 (fun z => z2 (sb q z)), fun q hq => sb _ (hS.2.2 q hq)⟩
    have k : WG (mkX l D ty hi (extL L xs) (csF a1 q2 a3 q4 a5)) mL room_1 cn sn (QZ (LOk (mkX l D ty hi (extL L xs) (csF a1 q2 a3 q4 a5)) b) LZ) 20 [(0, .ref (adr (mkX l D ty hi (extL L xs) (csF a1 q2 a3 q4 a5)) 100)), (1, .ref (adr (mkX l D ty hi (extL L xs) (csF a1 q2 a3 q4 a5)) 0)), (2, .ref (adr (mkX l D ty hi (extL L xs) (csF a1 q2 a3 q4 a5)) 47)), (3, .ref (adr (mkX l D ty hi (extL L xs) (csF a1 q2 a3 q4 a5)) 70))] [] h00 := by
      refine wp_iconst dL_law_20 ?_
      refine wp_istore dL_law_21 (by decide) ?_
      refine wp_loc (lvL (mkX l D ty hi (extL L xs) (csF a1 q2 a3 q4 a5)) 0) ⟨rfl, rfl, rfl, rfl, rfl, trivial⟩ ?_
      exact law_loop (S := fun j => (xs j).toInt) hl0 List.mem_cons_self hL (fun j => ⟨Int32.le_toInt _, Int32.toInt_lt _⟩) ⟨List.mem_of_getElem? (i := 1) rfl, List.mem_of_getElem? (i := 2) rfl, List.mem_of_getElem? (i := 3) rfl, List.mem_of_getElem? (i := 4) rfl⟩ 513 0 cn sn h00 σ00 (by omega) (by omega) (by omega) (by omega) ac00 am00 ok00
    have hl2 : lv_has ls 7 [(0, .ref (adr (mkX l D ty hi (extL L xs) (csF a1 q2 a3 q4 a5)) 100)), (1, .ref (adr (mkX l D ty hi (extL L xs) (csF a1 q2 a3 q4 a5)) 0)), (2, .ref (adr (mkX l D ty hi (extL L xs) (csF a1 q2 a3 q4 a5)) 47)), (3, .ref (adr (mkX l D ty hi (extL L xs) (csF a1 q2 a3 q4 a5)) 70))] := by
      rw [adr_hi (k := 100) (by decide), h100]
      exact hl
    obtain ⟨t, s1, s2⟩ := k p e s m args below meth c H locs ls ⟨hC.1, hC.2.1, hC.2.2.1, hC.2.2.2.1, hC.2.2.2.2.1, hC.2.2.2.2.2.1, hC.2.2.2.2.2.2.1, hC.2.2.2.2.2.2.2.1.1, hE, hiD.1⟩ (ws_wld hP) hS2 hl2 T hT XT
    exact ⟨t, s1, fun _ => s2 ⟨g1, lo, g2⟩⟩
  · exact ⟨_, Steps.refl _, fun q => absurd q g⟩
theorem law_walk {l : Launch} {D : va_G} {ty : Nat → ClassId} {hi : Nat → Nat} {L b : Nat} {xs : Nat → Int32} (hl0 : l.stackTraces = false) (hL : L ≤ 3072) (h100 : hi 100 = b) : WN (mkX l D ty hi (extL L xs) []) mL room_1 [] 0 0 (QZ (LOk0 (mkX l D ty hi (extL L xs) []) b) LZ) 0 [(0, .ref b)] [] [] := by
  refine wn_new dL_law_0 mnX10 (Nat.le_of_ble_eq_true rfl) (Nat.le_of_ble_eq_true rfl) (fun a1 => ?_)
  refine wn_dup dL_law_3 rfl ?_
  refine wn_callI dL_law_4 mlL_15 miX10 (S_X10_init a1) rfl rfl (by unfold RmC; decide) (Nat.le_of_ble_eq_true rfl) (fun q2 => ?_)
  refine wn_astore_n dL_law_7 (by decide) ?_
  refine wn_new dL_law_8 mnX11 (Nat.le_of_ble_eq_true rfl) (Nat.le_of_ble_eq_true rfl) (fun a3 => ?_)
  refine wn_dup dL_law_11 rfl ?_
  refine wn_callI dL_law_12 mlL_18 miX11 (S_X11_init a3) rfl rfl (by unfold RmC; decide) (Nat.le_of_ble_eq_true rfl) (fun q4 => ?_)
  refine wn_astore_n dL_law_15 (by decide) ?_
  refine wn_iconst dL_law_16 ?_
  refine wn_newL dL_law_17 (by decide) (N := 1) rfl (Nat.le_of_ble_eq_true rfl) (Nat.le_of_ble_eq_true rfl) (fun a5 => ?_)
  refine wn_astore_n dL_law_19 (by decide) ?_
  refine wn_loc [(0, .ref b), (1, .ref a1), (2, .ref a3), (3, .ref a5)] ⟨rfl, rfl, rfl, rfl, trivial⟩ ?_
  exact law_bridge hl0 hL h100 (Nat.le_of_ble_eq_true rfl) (Nat.le_of_ble_eq_true rfl)
theorem whole_start {p : Program} {e : Env} {s : State} {m : MethodId} {below : List Frame} {meth : Method} {c : Code} (l : Launch) (hflags : l.flags = flags0) {b L : Nat} {xs : Nat → Int32} (hL : L ≤ 3072) (C0 : lw_At p s m meth c b L xs) : W p l e room_1 s m #[Value.ref b] below meth c s.heap [] 0 0 (lw_Z below #[Value.ref b] s) (entryFrame m ([Value.ref b] : List Value).toArray 7) := by
  obtain ⟨hx, hb, hr, hml, hown, hts, hX, hbl, hlk, hgv, hcode⟩ := C0
  obtain ⟨D, ty, hK⟩ := kn_K hts
  obtain ⟨hi, h100, hE⟩ := st_ext hts hgv hX hbl
  have hE0 := hE l D ty
  have hl0 : l.stackTraces = false := by unfold Launch.stackTraces; rw [hflags]; decide +kernel
  have hw : ∀ w ∈ wsM mL, w.before #[Value.ref b] s = true := by
    intro w hw
    rcases List.mem_cons.mp hw with rfl | h9
    · exact hcode
    · exact hts w (List.mem_filter.mp h9).1
  rw [lg_entry_eq]
  intro T hT XT
  obtain ⟨t, s1, s2⟩ := law_walk (D := D) (ty := ty) (xs := xs) hl0 hL h100 p e s m #[Value.ref b] below meth c s.heap [] _ ⟨hx, hb, hr, hml, hown, hw, hlk, ⟨hK, hE0.2.2.2.2.1, va_AO.of (hts _ kao), nw_words hts⟩, fun h9 => absurd h9 (by decide)⟩ (fun k q hk => by simp at hk) ⟨fun i j p q h1 => by simp at h1, fun k q hk => by simp at hk⟩ va_S.rf (lv_entry [Value.ref b] (n := 7) (Nat.le_of_ble_eq_true rfl)) T hT XT
  exact ⟨t, s1, s2 ⟨nb_words hts, rfl, hE0⟩⟩
set_option maxHeartbeats 4000000 in
theorem lw_walk (l : Launch) (hflags : l.flags = flags0) (b : Addr) (xs : List Int32) : MetFree l x (headSpec (Jvm.Cond.code x code maxLocals ret :: tables_1) room_1) (lw_P b xs) (fun _ _ _ _ _ => True) lw_Q := by
  refine MetFree.of_bodyS (code := code) (maxLocals := maxLocals) (ret := ret) (by decide) ?_ ?_
  · intro args s m h hn
    obtain ⟨meth, c, h1, h2, h3, h4, h5, h6, -, -⟩ := Cond.code_spec hn (atoms_spec (ws := Jvm.Cond.code x code maxLocals ret :: tables_1) h _ List.mem_cons_self)
    exact ⟨meth, c, h1, h2, h3, h4, h5, h6⟩
  · intro p e s m args below meth c s₁ B hml0 hP _
    obtain ⟨rfl, hx, hbd, hgv⟩ := hP
    obtain ⟨scr, harrAt, hlist, hof, hsmall⟩ := hx
    obtain ⟨hcb, hkn, -, -⟩ := State.arrayAt?_spec harrAt
    have hown : s.vm.findClass R_law = some m.cls := findClass_of_methodNamed B.named
    have hts0 : ∀ c ∈ (Jvm.Cond.code x code maxLocals ret :: tables_1), c.before #[Value.ref b] s = true := atoms_spec (ws := Jvm.Cond.code x code maxLocals ret :: tables_1) B.pre
    have hts : ∀ w ∈ lw_tbl, w.before #[Value.ref b] s = true := k2_hts_sels lw_privs (fun w hw => hts0 w (List.mem_cons_of_mem _ hw)) lw_privs_ok
    have hml : c.maxLocals = 7 := B.maxLocals_eq (hts0 _ List.mem_cons_self)
    have X₀ : Stand p l e room_1 s m #[Value.ref b] below meth c s₁ [] 0 0 := Stand.of_body B
    have hh0 : s₁.heap = s.heap := by rw [B.state]; rfl
    have hsz : scr.slots.size = xs.length := by rw [← Array.length_toList, hlist, List.length_map]
    have hval : ∀ j : Nat, j < xs.length → scr.slots[j]? = some (.int (xs.getD j 0)) := fun j hj => by
      rw [← Array.getElem?_toList, hlist]
      simp [hj]
    have hbl : b < s.heap.size := (Array.getElem?_eq_some_iff.mp hcb).1
    have hX : va_X b xs.length (fun j => xs.getD j 0) s s.heap := ⟨scr, hcb, hof, hkn, hsz, hval⟩
    have K : W p l e room_1 s m #[Value.ref b] below meth c s₁.heap [] 0 0 (lw_Z below #[Value.ref b] s) (entryFrame m ([Value.ref b] : List Value).toArray 7) := by
      rw [hh0]
      exact whole_start l hflags hbd ⟨B.exec, B.bytes, B.returns, hml, hown, hts, hX, hbl, B.notSynchronized, hgv, hts0 _ List.mem_cons_self⟩
    obtain ⟨t, a1, o, b1, b2, b3⟩ := K s₁ rfl X₀
    exact ⟨t, o, a1, b1, b2, b3⟩
theorem lw_pre_spec {args : Array Value} {s : State} (h : (Jvm.Cond.and given_1 narrow_1).before args s = true) (hr : rest_1_c.before args s = true) : ∃ (b : Addr) (xs : List Int32), lw_P b xs args s := by
  have hs := flat_of_before _ h
  have hq := flat_of_before _ hr
  have hc : (Cond.count 1).before args s = true := hs _ (by decide +kernel)
  have harr : (Cond.arrayOf (.arg 0) .int).before args s = true := hs _ (by decide +kernel)
  have hle : (Cond.le (.length (.arg 0)) (.int 3072)).before args s = true := hs _ (by decide +kernel)
  have hlen : (Cond.isInt (.length (.arg 0))).before args s = true := hq _ (by decide +kernel)
  have hall : (Cond.all (.arg 0) (.isInt (.elem (.arg 0) (.index 0)))).before args s = true := hq _ (by decide +kernel)
  obtain ⟨b, xs, hb, hx⟩ := State.ints_of_pre rfl harr hlen hall
  have hsm : xs.length < 2 ^ 31 := hx.choose_spec.2.2.2
  have hev : (Term.length (.arg 0)).eval args s none [] s = some (.int xs.length.toInt32) := hx.length_eval hb
  have hv := Cond.le_ints hev (show (Term.int 3072).eval args s none [] s = some (.int 3072) from rfl)
  have hd : xs.length.toInt32 ≤ 3072 := by
    simpa [Cond.before, Cond.holds, hv] using hle
  have hN : xs.length ≤ 3072 := (Int32.ofNat_le_ofNat hsm (by decide)).mp (show Int32.ofNat xs.length ≤ Int32.ofNat 3072 from hd)
  exact ⟨b, xs, Cond.one_arg hc (show args[0]? = some (.ref b) from hb), hx, hN, h⟩
theorem lw_comes (l : Launch) (hflags : l.flags = flags0) : Comes l x (Jvm.Cond.code x code maxLocals ret :: tables_1) room_1 (fun tb e args s => Calls_1 tb e args s ∧ rest_1 tb e args s ∧ Pre_1 tb e args s)
    (fun _ _ args s o t => lw_Q args s o t) := by
  intro p e ha hc hk s m args below hf hfit hheap happ hpre
  obtain ⟨b, xs, hP⟩ := lw_pre_spec hpre.2.2 hpre.2.1
  obtain ⟨k, o, h1, h2, h3, hQ⟩ := lw_walk l hflags b xs p e ha hc hk s m args below hf ((Spec.applies_iff_loose hf).mp happ).1 hP trivial
  exact ⟨k, o, h1, h2, h3, hQ⟩
theorem lw_frame {s t : State} {o : Outcome} {args : Array Value} (h : Framed s o t [] 601024 7293034) :
    Framed s o t (fieldLocs frame_1_writes args s ++ arrayLocs frame_1_arrays args s ++ staticLocs frame_1_statics s) 601024 7293034 := h
theorem lw_limb (L : Cond) (hL : ∀ (args : Array Value) (s t : State), L.after args s (.returned (some (.int 1))) t = true) :
    ArmFor flags0 classFile x code maxLocals ret World_1 tables_1 room_1 Calls_1 rest_1 Pre_1
      (fun tb e a s o t => postC L tb e a s o t ∧ Framed s o t (fieldLocs frame_1_writes a s ++ arrayLocs frame_1_arrays a s ++ staticLocs frame_1_statics s) 601024 7293034) := by
  intro l hflags _ _ p e ha hc hk s m args below hf hfit hheap happ hpre
  obtain ⟨k, o, h1, h2, h3, rfl, hF⟩ := lw_comes l hflags p e ha hc hk s m args below hf hfit hheap happ hpre
  exact ⟨k, _, h1, h2, h3, hL args s _, lw_frame hF⟩
theorem i_vc : Claimed_1_1 ∧ Claimed_1_2 := ⟨lw_limb limb_1_1 (fun args s t => by simp [limb_1_1, Cond.after, Cond.holds, Cond.value]), lw_limb limb_1_2 (fun args s t => Cond.after_iff.mpr (by
  first | (rw [show limb_1_2 = Cond.eq .result (.int 1) from rfl, Cond.eq_ints (x := 1) (y := 1) rfl rfl]; simp; done) | (simp [limb_1_2, Cond.value, Term.eval]; done)))⟩
