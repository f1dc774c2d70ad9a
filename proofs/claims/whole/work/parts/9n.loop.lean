/-! the law's loop -/
def R_law : String := "RockingTableLaw"
def lw_P (b : Addr) (xs : List Int32) (args : Array Value) (s : State) : Prop := args = #[.ref b] ∧ s.IntsAt b xs ∧ xs.length ≤ 3072 ∧ (Jvm.Cond.and given_1 narrow_1).before args s = true
def lw_Q (_ : Array Value) (s : State) (o : Outcome) (t : State) : Prop := o = .returned (some (.int 1)) ∧ Framed s o t [] 601024 7293034
def lw_Z (below : List Frame) (a : Array Value) (s : State) : State → Prop := fun t => ∃ o, t.status = .running ∧ Ended t below o ∧ lw_Q a s o t
/-- the law's own end, with 1 on the stack, nothing written that was there before, its room as the claim has it -/
theorem lw_ret {p : Program} {l : Launch} {e : Env} {s : State} {m : MethodId} {below : List Frame} {meth : Method} {c : Code} {b : Nat} (hx : p.tables.exec = Jvm.exec) (hb : c.code = code) (hr : meth.sig.returnType = ret) (hlocks : meth.locks = false) {pc : Nat} {H : Heap} {ls : Array Slot} (hdg : decode code pc = .ok (.ireturn, 1)) : W p l e room_1 s m #[Value.ref b] below meth c H [] 601024 7293034 (lw_Z below #[Value.ref b] s) (F0 m pc ls [.int 1]) := by
  intro T hT X
  obtain ⟨fs, hret, hrun, hended, hW, hframe⟩ := X.leave (v := some (.int 1)) (hlocks := hlocks) (fun h => by rw [hr] at h; cases h)
  have hmeth' : T.vm.method? m = some meth := X.method'
  refine ⟨T.setFrames fs, ?_, .returned (some (.int 1)), hrun, hended, rfl, ⟨_, rfl⟩, hW, hframe⟩
  jvm_step X.here [X.here.top, hx, hb, hdg, hmeth', hr, ret, narrow_b1]
  (try refine ⟨rfl, ?_⟩); (try refine ⟨rfl, ?_⟩)
  first | (intro acts; rw [hret _ acts rfl rfl rfl]) | rw [hret _ _ rfl rfl rfl]
  exact Steps.refl _
/-- what holds at the law's entry: the machine, the code, the tables' words (any of lw_tbl by 'hts w (by decide +kernel)'), the script of L ints xs at the cell b, what the Statement gives of the start (any of its parts by flat_of_before) -/
def lw_At (p : Program) (s : State) (m : MethodId) (meth : Method) (c : Code) (b L : Nat) (xs : Nat → Int32) : Prop :=
  p.tables.exec = Jvm.exec ∧ c.code = code ∧ meth.sig.returnType = ret ∧ c.maxLocals = 7 ∧ s.vm.findClass R_law = some m.cls ∧ (∀ w ∈ lw_tbl, w.before #[Value.ref b] s = true) ∧ va_X b L xs s s.heap ∧ b < s.heap.size ∧ meth.locks = false ∧ (Jvm.Cond.and given_1 narrow_1).before #[Value.ref b] s = true ∧ (Jvm.Cond.code x code maxLocals ret).before #[Value.ref b] s = true
def LOk (X : Cx) (b : Nat) (s : State) (args : Array Value) : Prop := (∀ w ∈ nbw, w.before args s = true) ∧ (∀ k, k < 71 → s.heap.size ≤ adr X k) ∧ args = #[Value.ref b]
def LZ : State → Array Value → List Frame → State → Prop := fun s args below => lw_Z below args s
theorem law_exit {X : Cx} {b cn sn : Nat} {lv : List (Nat × Value)} {h : Hp} (h1 : cn ≤ 601024) (h2 : sn ≤ 7293034) : WG X mL room_1 cn sn (QZ (LOk X b) LZ) 1541 lv [] h := by
  refine wp_iconst dL_law_1541 ?_
  intro p e s m args below meth c H locs ls hC hP hS hl T hT XT
  by_cases g : LOk X b s args
  · obtain ⟨g1, g2, g3⟩ := g
    subst g3
    obtain ⟨t, a1, b1⟩ := va_forget (fun q hq => by
      rcases hS.2.2 q hq with ⟨k, hk, e9⟩ | h9
      · rw [e9]; exact g2 k hk
      · exact h9) (W.widen h1 h2 (lw_ret hC.1 hC.2.1 hC.2.2.1 hC.2.2.2.2.2.2.1 dL_law_1542 (H := H) (ls := ls))) T hT XT
    exact ⟨t, a1, fun _ => b1⟩
  · exact ⟨_, Steps.refl _, fun q => absurd q g⟩
theorem law_case {X : Cx} {b L cn sn i : Nat} {S : Nat → Int} {h : Hp} {σ : Sg} {q : Int} (hl0 : X.1.stackTraces = false) (K : LK X room_1 cn sn S L i) (K2 : LK X room_1 (cn + 1) (sn + 6) S L i) (hc : cn + 1 ≤ 601024) (hs : sn + 6 ≤ 7293034) (hq : 0 ≤ q ∧ q ≤ 63) (a : AC h σ) (am : AM h σ) (o : SOK σ) (nx : ∀ (h9 : Hp) (σ9 : Sg), AC h9 σ9 → AM h9 σ9 → SOK σ9 → WG X mL room_1 (cn + 1) (sn + 6) (QZ (LOk X b) LZ) 1535 (lvL X i) [] h9) : WG X mL room_1 cn sn (QZ (LOk X b) LZ) 40 (lvL X i) [.int (iI q)] h := by
  have nw : ∀ (h9 : Hp) (σ9 : Sg), AC h9 σ9 → AM h9 σ9 → SOK σ9 → WG X mL room_1 cn sn (QZ (LOk X b) LZ) 1535 (lvL X i) [] h9 := fun h9 σ9 b1 b2 b3 => wg_wide (Nat.le_succ _) (Nat.le_add_right _ _) (nx h9 σ9 b1 b2 b3)
  have hc9 : 38 < q ∨ q = 0 ∨ q = 1 ∨ q = 2 ∨ q = 3 ∨ q = 4 ∨ q = 5 ∨ q = 6 ∨ q = 7 ∨ q = 8 ∨ q = 9 ∨ q = 10 ∨ q = 11 ∨ q = 12 ∨ q = 13 ∨ q = 14 ∨ q = 15 ∨ q = 16 ∨ q = 17 ∨ q = 18 ∨ q = 19 ∨ q = 20 ∨ q = 21 ∨ q = 22 ∨ q = 23 ∨ q = 24 ∨ q = 25 ∨ q = 26 ∨ q = 27 ∨ q = 28 ∨ q = 29 ∨ q = 30 ∨ q = 31 ∨ q = 32 ∨ q = 33 ∨ q = 34 ∨ q = 35 ∨ q = 36 ∨ q = 37 ∨ q = 38 := by omega
  rcases hc9 with c | rfl | rfl | rfl | rfl | rfl | rfl | rfl | rfl | rfl | rfl | rfl | rfl | rfl | rfl | rfl | rfl | rfl | rfl | rfl | rfl | rfl | rfl | rfl | rfl | rfl | rfl | rfl | rfl | rfl | rfl | rfl | rfl | rfl | rfl | rfl | rfl | rfl | rfl | rfl
  · exact wp_tso 1535 dL_law_40 ⟨by omega, by omega⟩ (Or.inr c) (by decide) (nw h σ a am o)
  · exact wp_tsi 212 dL_law_40 (by unfold InR; decide) (by decide) (by decide) (by rfl) (by decide) (lc_feed K a am o nw)
  · exact wp_tsi 285 dL_law_40 (by unfold InR; decide) (by decide) (by decide) (by rfl) (by decide) (lc_end K a am o nw)
  · exact wp_tsi 310 dL_law_40 (by unfold InR; decide) (by decide) (by decide) (by rfl) (by decide) (lc_fault K a am o nw)
  · exact wp_tsi 335 dL_law_40 (by unfold InR; decide) (by decide) (by decide) (by rfl) (by decide) (lc_text K a am o nw)
  · exact wp_tsi 360 dL_law_40 (by unfold InR; decide) (by decide) (by decide) (by rfl) (by decide) (lc_height (fun _ _ g => g.1) hl0 K K2 (Nat.le_of_ble_eq_true rfl) (Nat.le_of_ble_eq_true rfl) hc hs a am o nx)
  · exact wp_tsi 416 dL_law_40 (by unfold InR; decide) (by decide) (by decide) (by rfl) (by decide) (lc_shorter K a am o nw)
  · exact wp_tsi 441 dL_law_40 (by unfold InR; decide) (by decide) (by decide) (by rfl) (by decide) (lc_card K a am o nw)
  · exact wp_tsi 478 dL_law_40 (by unfold InR; decide) (by decide) (by decide) (by rfl) (by decide) (lc_wish K a am o nw)
  · exact wp_tsi 503 dL_law_40 (by unfold InR; decide) (by decide) (by decide) (by rfl) (by decide) (lc_gap K a am o nw)
  · exact wp_tsi 528 dL_law_40 (by unfold InR; decide) (by decide) (by decide) (by rfl) (by decide) (lc_tilt K a am o nw)
  · exact wp_tsi 553 dL_law_40 (by unfold InR; decide) (by decide) (by decide) (by rfl) (by decide) (lc_stands K a am o nw)
  · exact wp_tsi 590 dL_law_40 (by unfold InR; decide) (by decide) (by decide) (by rfl) (by decide) (lc_level K a am o nw)
  · exact wp_tsi 616 dL_law_40 (by unfold InR; decide) (by decide) (by decide) (by rfl) (by decide) (lc_within K a am o nw)
  · exact wp_tsi 665 dL_law_40 (by unfold InR; decide) (by decide) (by decide) (by rfl) (by decide) (lc_best K a am o nw)
  · exact wp_tsi 690 dL_law_40 (by unfold InR; decide) (by decide) (by decide) (by rfl) (by decide) (lc_sawn K a am o nw)
  · exact wp_tsi 727 dL_law_40 (by unfold InR; decide) (by decide) (by decide) (by rfl) (by decide) (lc_less K a am o nw)
  · exact wp_tsi 740 dL_law_40 (by unfold InR; decide) (by decide) (by decide) (by rfl) (by decide) (lc_wedges K a am o nw)
  · exact wp_tsi 777 dL_law_40 (by unfold InR; decide) (by decide) (by decide) (by rfl) (by decide) (lc_rock K a am o nw)
  · exact wp_tsi 814 dL_law_40 (by unfold InR; decide) (by decide) (by decide) (by rfl) (by decide) (lc_shorts K a am o nw)
  · exact wp_tsi 851 dL_law_40 (by unfold InR; decide) (by decide) (by decide) (by rfl) (by decide) (lc_heights K a am o nw)
  · exact wp_tsi 888 dL_law_40 (by unfold InR; decide) (by decide) (by decide) (by rfl) (by decide) (lc_angles K a am o nw)
  · exact wp_tsi 901 dL_law_40 (by unfold InR; decide) (by decide) (by decide) (by rfl) (by decide) (lc_steady K a am o nw)
  · exact wp_tsi 926 dL_law_40 (by unfold InR; decide) (by decide) (by decide) (by rfl) (by decide) (lc_likely K a am o nw)
  · exact wp_tsi 975 dL_law_40 (by unfold InR; decide) (by decide) (by decide) (by rfl) (by decide) (lc_jug K a am o nw)
  · exact wp_tsi 1012 dL_law_40 (by unfold InR; decide) (by decide) (by decide) (by rfl) (by decide) (lc_soup K a am o nw)
  · exact wp_tsi 1049 dL_law_40 (by unfold InR; decide) (by decide) (by decide) (by rfl) (by decide) (lc_serves K a am o nw)
  · exact wp_tsi 1074 dL_law_40 (by unfold InR; decide) (by decide) (by decide) (by rfl) (by decide) (lc_rocky K a am o nw)
  · exact wp_tsi 1099 dL_law_40 (by unfold InR; decide) (by decide) (by decide) (by rfl) (by decide) (lc_cheap K a am o nw)
  · exact wp_tsi 1160 dL_law_40 (by unfold InR; decide) (by decide) (by decide) (by rfl) (by decide) (lc_piles K a am o nw)
  · exact wp_tsi 1185 dL_law_40 (by unfold InR; decide) (by decide) (by decide) (by rfl) (by decide) (lc_trial K a am o nw)
  · exact wp_tsi 1278 dL_law_40 (by unfold InR; decide) (by decide) (by decide) (by rfl) (by decide) (lc_flip K a am o nw)
  · exact wp_tsi 1303 dL_law_40 (by unfold InR; decide) (by decide) (by decide) (by rfl) (by decide) (lc_plane K a am o nw)
  · exact wp_tsi 1328 dL_law_40 (by unfold InR; decide) (by decide) (by decide) (by rfl) (by decide) (lc_saw K a am o nw)
  · exact wp_tsi 1365 dL_law_40 (by unfold InR; decide) (by decide) (by decide) (by rfl) (by decide) (lc_heap K a am o nw)
  · exact wp_tsi 1402 dL_law_40 (by unfold InR; decide) (by decide) (by decide) (by rfl) (by decide) (lc_drawn K a am o nw)
  · exact wp_tsi 1471 dL_law_40 (by unfold InR; decide) (by decide) (by decide) (by rfl) (by decide) (lc_undo K a am o nw)
  · exact wp_tsi 1484 dL_law_40 (by unfold InR; decide) (by decide) (by decide) (by rfl) (by decide) (lc_image K a am o nw)
  · exact wp_tsi 1497 dL_law_40 (by unfold InR; decide) (by decide) (by decide) (by rfl) (by decide) (lc_back K a am o nw)
  · exact wp_tsi 1510 dL_law_40 (by unfold InR; decide) (by decide) (by decide) (by rfl) (by decide) (lc_count K a am o nw)
theorem law_loop {X : Cx} {b L : Nat} {S : Nat → Int} (hl0 : X.1.stackTraces = false) (hS : (100, L, S) ∈ X.2.2.2.2) (hL : L ≤ 3072) (hI : ∀ j, InR (S j)) (hx : XOK X) : ∀ (n i cn sn : Nat) (h : Hp) (σ : Sg), L < i + 6 * n → i ≤ 3072 → cn + n ≤ 601000 → sn + 6 * n ≤ 7293000 → AC h σ → AM h σ → SOK σ → WG X mL room_1 cn sn (QZ (LOk X b) LZ) 23 (lvL X i) [] h := by
  intro n
  induction n with
  | zero =>
    intro i cn sn h σ h1 h2 h3 h4 a am o
    refine wp_iload dL_law_23 rfl ?_
    refine wp_aload_n dL_law_25 rfl ?_
    refine wp_xlen dL_law_26 hS ?_
    refine wp_bipush dL_law_27 (by decide) ?_
    refine wp_isub dL_law_29 ?_
    refine wp_icmpgt 1541 dL_law_30 (by decide) ⟨by omega, by omega⟩ ⟨by omega, by omega⟩ (fun _ => law_exit (by omega) (by omega)) (fun c => absurd (by omega) c)
  | succ n ih =>
    intro i cn sn h σ h1 h2 h3 h4 a am o
    refine wp_iload dL_law_23 rfl ?_
    refine wp_aload_n dL_law_25 rfl ?_
    refine wp_xlen dL_law_26 hS ?_
    refine wp_bipush dL_law_27 (by decide) ?_
    refine wp_isub dL_law_29 ?_
    refine wp_icmpgt 1541 dL_law_30 (by decide) ⟨by omega, by omega⟩ ⟨by omega, by omega⟩ (fun _ => law_exit (by omega) (by omega)) (fun c => ?_)
    have c6 : i + 6 ≤ L := by omega
    refine wp_aload_n dL_law_33 rfl ?_
    refine wp_iload dL_law_34 rfl ?_
    refine wp_xald dL_law_36 hS (by omega) (by omega) (by omega) ?_
    refine wp_bipush dL_law_37 (by decide) ?_
    refine wp_iand dL_law_39 ?_
    have rm : ∀ c9 s9 : Nat, c9 ≤ 601024 → s9 ≤ 7293034 → ∀ d n : Nat, d ≤ 62 → n ≤ 40 → RmOk room_1 c9 s9 d n := fun c9 s9 e1 e2 d n hd hn => ⟨⟨by show d + 1 ≤ 2048; omega, by show 8 + (n + 11) + 64 * d ≤ 84000; omega⟩, e1, e2⟩
    refine law_case hl0 ⟨hS, by omega, c6, hI, hx, rm cn sn (by omega) (by omega)⟩ ⟨hS, by omega, c6, hI, hx, rm (cn + 1) (sn + 6) (by omega) (by omega)⟩ (by omega) (by omega) (iAnd_b _ (by decide) (by decide)) a am o (fun h9 σ9 b1 b2 b3 => ?_)
    refine wp_iinc dL_law_1535 rfl (by decide) ?_
    refine wp_loc (lvL X (i + 6)) ⟨rfl, rfl, rfl, rfl, rfl, trivial⟩ ?_
    refine wp_goto 23 dL_law_1538 (by decide) ?_
    exact ih (i + 6) (cn + 1) (sn + 6) h9 σ9 (by omega) (by omega) (by omega) (by omega) b1 b2 b3
