/-! the law's own rules -/
abbrev mL : Mt := (yL_law, cL_law, 7, ret)
abbrev lvL (X : Cx) (i : Nat) : List (Nat × Value) := [(0, .ref (adr X 100)), (1, .ref (adr X 0)), (2, .ref (adr X 47)), (3, .ref (adr X 70)), (4, .int (iI i))]
/-- what the law's body knows: the script S of L ints, the place i in it, the room -/
def LK (X : Cx) (R : Room) (cn sn : Nat) (S : Nat → Int) (L i : Nat) : Prop := (100, L, S) ∈ X.2.2.2.2 ∧ L < 2147483648 ∧ i + 6 ≤ L ∧ (∀ j, InR (S j)) ∧ XOK X ∧ ∀ d n : Nat, d ≤ 62 → n ≤ 40 → RmOk R cn sn d n
theorem AM.sm {h h' : Hp} {σ : Sg} (a : AM h σ) (hk : ∀ c j, 47 ≤ c → hI h' c j = hI h c j) (hr : hR h' 47 5 = hR h 47 5) : AM h' σ := by
  obtain ⟨⟨t1, t2⟩, ⟨w1, w2⟩, d1, r1, ⟨g1, g2, g3, g4, g5, g6⟩, ⟨k1, k2⟩, ⟨c1, c2⟩, ⟨i1, i2⟩⟩ := a
  have lie : ∀ (P : Int) (b x b2 y : Nat) (l : Lie), (b = 67 ∨ b = 68) → (b2 = 67 ∨ b2 = 69) → lieAt h P b x b2 y l → lieAt h' P b x b2 y l := by
    intro P b x b2 y l hb hb2 q
    exact ⟨fun i hi => by rw [hk b _ (by omega)]; exact q.1 i hi, fun i hi => by rw [hk b2 _ (by omega)]; exact q.2 i hi⟩
  refine ⟨⟨?_, fun i hi => ?_⟩, ⟨?_, fun w t ht => ?_⟩, ?_, ?_, ⟨?_, ?_, ?_, ?_, ?_, fun s hs => ?_⟩, ⟨?_, fun i q hq => ?_⟩, ⟨?_, fun k l hl => ?_⟩, ⟨?_, fun l hl => ?_⟩⟩
  · rw [hk 47 6 (by omega)]; exact t1
  · rw [hk 48 i (by omega)]; exact t2 i hi
  · rw [hk 47 7 (by omega)]; exact w1
  · obtain ⟨q1, q2⟩ := w2 w t ht
    exact ⟨by rw [hk 50 _ (by omega)]; exact q1, fun i hi => by rw [hk 49 _ (by omega)]; exact q2 i hi⟩
  · rw [hk 47 31 (by omega)]; exact d1
  · rw [hr]; exact r1
  · rw [hk 47 24 (by omega)]; exact g1
  · rw [hk 47 26 (by omega)]; exact g2
  · rw [hk 47 27 (by omega)]; exact g3
  · rw [hM_eq (hk 47 24 (by omega)) (fun i => hk 52 i (by omega))]; exact g4
  · rw [sM_eq (fun i => hk 54 i (by omega))]; exact g5
  · rw [hk 56 _ (by omega), hk 56 _ (by omega)]; exact g6 s hs
  · rw [hk 47 42 (by omega)]; exact k1
  · rw [hk 63 _ (by omega), hk 64 _ (by omega)]; exact k2 i q hq
  · rw [hk 47 48 (by omega)]; exact c1
  · exact lie _ _ _ _ _ _ (Or.inl rfl) (Or.inl rfl) (c2 k l hl)
  · rw [hk 47 51 (by omega)]; exact i1
  · exact lie _ _ _ _ _ _ (Or.inr rfl) (Or.inr rfl) (i2 l hl)
theorem AM.sM {h h' : Hp} {σ : Sg} (a : AM h σ) (s : sameM h h') : AM h' σ := a.sm (fun c j hc => by unfold hI; rw [(s c hc).1]) (by unfold hR; rw [(s 47 (by decide)).2.2])
theorem AC.sC {h h' : Hp} {σ : Sg} (a : AC h σ) (o : SOK σ) (s : sameC h h') : AC h' σ := a.keep o (fun c j hr => by unfold hI; rw [(s c (by unfold rs at hr; omega)).1]) (by unfold hR; rw [(s 0 (by decide)).2.2]) (by unfold hR; rw [(s 0 (by decide)).2.2])
theorem AC.s70 {h : Hp} {σ : Sg} {x : Int64} (a : AC h σ) (o : SOK σ) : AC (sL h 70 0 x) σ := a.keep o (fun _ _ _ => rfl) rfl rfl
theorem AM.s70 {h : Hp} {σ : Sg} {x : Int64} (a : AM h σ) : AM (sL h 70 0 x) σ := a.sm (fun _ _ _ => rfl) rfl
section LawRules
variable {X : Cx} {R : Room} {cn sn pc : Nat} {Qf : State → Array Value → List Frame → State → Prop} {lv : List (Nat × Value)} {st : List Value} {h : Hp} {S : Nat → Int} {L i : Nat} {M : Mt}
theorem wp_eqs {v : Int32} {off : Int} (tgt : Nat) (hd : decode M.2.1 pc = .ok (.if_icmp .eq off, 3)) (ht : (pc : Int) + off = (tgt : Int)) (k : WG X M R cn sn Qf tgt lv st h) : WG X M R cn sn Qf pc lv (.int v :: .int v :: st) h := by
  intro p e s m args below meth c H locs ls hC hP hS hl
  refine lv_icmp_eq hC.1 hC.2.1 hd ht ?_ ?_
  · intro _
    exact k p e s m args below meth c H locs _ hC hP hS hl
  · intro q
    exact absurd rfl q
theorem wp_lcmps {x : Int64} (hd : decode M.2.1 pc = .ok (.lcmp, 1)) (k : WG X M R cn sn Qf (pc + 1) lv (.int (iI 0) :: st) h) : WG X M R cn sn Qf pc lv (.long x :: .long x :: st) h := by
  refine wp_lcmp hd ?_
  have e : lcm x x = 0 := by
    rw [lcm_v, if_neg Int64.lt_irrefl, if_pos rfl]
  rw [e]
  exact k
theorem wg_wide {k n : Nat} (h1 : cn ≤ k) (h2 : sn ≤ n) (kk : WG X M R k n Qf pc lv st h) : WG X M R cn sn Qf pc lv st h := by
  intro p e s m args below meth c H locs ls hC hP hS hl
  exact W.widen h1 h2 (kk p e s m args below meth c H locs _ hC hP hS hl)
theorem la_arg {z : Int} (kn : Nat) (lv5 : lvGet lv 0 = some (.ref (adr X 100)) ∧ lvGet lv 4 = some (.int (iI i))) (K : LK X R cn sn S L i) (d0 : decode cL_law pc = .ok (.aload_n 0, 1)) (d1 : decode cL_law (pc + 1) = .ok (.iload 4, 2)) (d3 : decode cL_law (pc + 3) = .ok (.iconst z, 1)) (d4 : decode cL_law (pc + 4) = .ok (.iadd, 1)) (d5 : decode cL_law (pc + 5) = .ok (.iaload, 1)) (hz : z = (kn : Int)) (hk : kn < 6) (k : WG X mL R cn sn Qf (pc + 6) lv (.int (iI (S (i + kn))) :: st) h) : WG X mL R cn sn Qf pc lv st h := by
  refine wp_aload_n (M := mL) d0 lv5.1 ?_
  refine wp_iload (M := mL) d1 lv5.2 ?_
  refine wp_iconst (M := mL) d3 ?_
  refine wp_iadd (M := mL) d4 ?_
  have h6 := K.2.2.1
  refine wp_xald (M := mL) d5 K.1 K.2.1 (by omega) (by omega) ?_
  rw [show ((i : Int) + z).toNat = i + kn by omega]
  exact k
/-- the call of the law's own height -/
theorem kL75 : Cond.initialized RL ∈ wsG := inL 75 (by decide +kernel) rfl
theorem kL37 : Cond.methodLink RL 37 yL_height ∈ wsG := inL 1026 (by decide +kernel) rfl
theorem kLst : Cond.static yL_height ∈ wsG := inL 1027 (by decide +kernel) rfl
theorem nLh : (yL_height.cls ≠ "java/lang/invoke/MethodHandle" ∧ yL_height.cls ≠ "java/lang/invoke/VarHandle") ∧ (parseMethodDescriptor yL_height.desc).map (fun d => d.parameters.length) = some 3 := ⟨⟨by decide +kernel, by decide +kernel⟩, by decide +kernel⟩
/-- ends that may rest on what holds at the law's entry -/
def QZ (Ok : State → Array Value → Prop) (Z : State → Array Value → List Frame → State → Prop) : State → Array Value → List Frame → State → Prop := fun s args below t => Ok s args → Z s args below t
theorem la_height {Ok : State → Array Value → Prop} {Z : State → Array Value → List Frame → State → Prop} {σ : Sg} {p : Int} (hok : ∀ s args, Ok s args → ∀ w ∈ nbw, w.before args s = true) (hl0 : X.1.stackTraces = false) (a : AC h σ) (o : SOK σ) (hp : InR p) (hd : decode cL_law pc = .ok (.invokestatic 37, 3)) (hf : 63 ≤ R.frames) (hlo : 4200 ≤ R.locals) (hc : cn + 1 ≤ R.cells) (hs : sn + 6 ≤ R.slots)
    (k : ∀ (r : Option Value) (h' : Hp), PLh h σ p r h' → WG X mL R (cn + 1) (sn + 6) (QZ Ok Z) (pc + 3) lv (r.toList ++ []) h') : WG X mL R cn sn (QZ Ok Z) pc lv [.ref (adr X 70), .int (iI p), .ref (adr X 0)] h := by
  intro p9 e s m args below meth c H locs ls hC hP hS hl T hT XT
  by_cases g : Ok s args
  · have hts := hC.2.2.2.2.2.1
    have hN := hok s args g
    have hgood : GoodIn (wsM mL) wsG := fun w hw => ⟨wsM_G hw, good_of_word (List.mem_filter.mp hw).2⟩
    have hcw : ∀ w ∈ wsH, ∀ (a' : Array Value) (U : State), s.WarmedH U.vm → w.before a' U = true := by
      intro w hw a' U hW
      rcases List.mem_cons.mp hw with rfl | h1
      · exact pay_in hts hgood _ wcL_G a' U hW
      · rcases List.mem_append.mp h1 with h1 | h1
        · exact pay_in hts hgood w h1 a' U hW
        · exact nbw_warm hN hW w h1
    have hr := vx_runSX (As := [.ref (adr X 0), .int (iI p), .ref (adr X 70)]) (rest := []) (e := e) (R := R) (below := below) (meth := meth) (locs := locs) (cells := cn) (slots := sn) (g := F0 m pc ls [.ref (adr X 70), .int (iI p), .ref (adr X 0)]) (n := 3) ⟨hC.1, hC.2.1, hC.2.2.2.1, hC.2.2.2.2.1, hts⟩ (S_L_height hl0 a o hp H.size)
      ⟨⟨rfl, rfl, hf, (by show 8 + (4 + 11) + 4100 ≤ R.locals; omega), hcw, List.mem_cons_self⟩, hts _ (wsM_G wcL_G), hts _ (wsM_G kL75), nLh.1, (fun sig h9 => by have h8 := nLh.2; rw [h9] at h8; exact (Option.some.inj h8).symm), hts _ (wsM_G kL37), hts _ (wsM_G kLst)⟩
      ⟨pw_blind, fun U hU hW => pw_at hC hP hS U hU hW⟩ rfl rfl hl.1 rfl (lv_room (Nat.le_of_ble_eq_true rfl)) hd ⟨hc, hs⟩
    rcases hr T hT XT with ⟨v, st₀, t, T', Lo, h0, X', hLo, e1, e2, ⟨⟨r, h', hv, hpc, hbb⟩, hz, hk⟩, stp⟩ | ⟨q, st₀, t, T', Lo, E, ce, h0, X', hLo, e1, e2, hxc, hce, hcv, hcl, stx⟩
    · cases hv
      rw [h0] at hz hk
      have hS' : va_S (AW X s.heap.size) s.heap T'.heap (locs ++ Lo) := by
        refine ⟨Nat.le_trans hS.1 (by rw [e1]; exact hz), fun q h1 h2 => ?_, fun q hq => ?_⟩
        · rw [e1, hk q (Nat.lt_of_lt_of_le h1 hS.1) (fun z => h2 (AW_mono hS.1 q z))]
          exact hS.2.1 q h1 h2
        · rcases List.mem_append.mp hq with h9 | h9
          · exact hS.2.2 q h9
          · exact AW_mono hS.1 _ (hLo q h9)
      obtain ⟨t2, a1, b1⟩ := k v h' hpc p9 e s m args below meth c T'.heap (locs ++ Lo) ls hC (by rw [e1]; exact hbb) hS' hl T' rfl X'
      exact ⟨t2, stp t2 a1, b1⟩
    · exact hxc.elim
  · exact ⟨_, Steps.refl _, fun q => absurd q g⟩
end LawRules
