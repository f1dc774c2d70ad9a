/-! the law's own height: a call that may throw, caught -/
def isCD : Cond → Bool := fun w => match w with
  | .castable _ _ => true
  | .declares _ => true
  | _ => false
theorem nbw_cd : nbw.all isCD = true := by decide +kernel
theorem nbw_warm {args a' : Array Value} {s U : State} (h : ∀ w ∈ nbw, w.before args s = true) (hW : s.WarmedH U.vm) : ∀ w ∈ nbw, w.before a' U = true := by
  intro w hw
  have h1 := h w hw
  have h2 := List.all_eq_true.mp nbw_cd w hw
  unfold isCD at h2
  split at h2
  · exact va_Nw.use rfl (va_Nw.warmC hW (va_Nw.of rfl h1))
  · exact va_Nw.use rfl (va_Nw.warmD hW (va_Nw.of rfl h1))
  · cases h2
abbrev hhL : List (Nat × Nat × Nat × Nat) := [(0, 9, 12, 13)]
def wcL : Cond := Cond.codeWith yL_height cL_height 4 (some .int) hhL
theorem wcL_G : wcL ∈ wsG := inL 1028 (by decide +kernel) rfl
theorem kc13 : Cond.classLink RL 13 nse ∈ wsG := inL 1029 (by decide +kernel) rfl
theorem kcast : Cond.castable nse nse ∈ nbw := by decide +kernel
def wsH : List Cond := wcL :: (wsG ++ nbw)
def rmLH : Room := { frames := 62, cells := 1, slots := 6, locals := 4100 }
def PLh (h : Hp) (σ : Sg) (p : Int) (rv : Option Value) (h' : Hp) : Prop := ((0 ≤ p ∧ p < gP (sG σ)) ∧ rv = some (.int (iI 0)) ∧ h' = sL h 70 0 (iI (qHigh σ p)).toInt64) ∨ (¬ (0 ≤ p ∧ p < gP (sG σ)) ∧ rv = some (.int (iI 1)) ∧ h' = h)
theorem S_L_height {X : Cx} {h : Hp} {σ : Sg} {p : Int} (hl0 : X.1.stackTraces = false) (a : AC h σ) (o : SOK σ) (hp : InR p) : ∀ sz : Nat, vx_Met X.1 yL_height wsH rmLH (va_Pc [.ref (adr X 0), .int (iI p), .ref (adr X 70)] (PW X h sz)) (QP X (PLh h σ p)) (fun _ _ _ => False) 1 6 (AW X sz) := by
  intro sz
  refine vx_ofWH (cc := cL_height) (maxL := 4) (ret := some .int) (hh := hhL) (by decide +kernel) rfl ?_
  intro p9 e s m args below meth c s₁ B hml hv
  obtain ⟨rfl, hsz, hP, hK, hE, hi⟩ := hv
  subst hsz
  have hts := atoms_spec (ws := wsH) B.pre
  have htG : ∀ w ∈ wsG, w.before [Value.ref (adr X 0), .int (iI p), .ref (adr X 70)].toArray s = true := fun w hw => hts w (List.mem_cons_of_mem _ (List.mem_append_left _ hw))
  have htN : ∀ w ∈ nbw, w.before [Value.ref (adr X 0), .int (iI p), .ref (adr X 70)].toArray s = true := fun w hw => hts w (List.mem_cons_of_mem _ (List.mem_append_right _ hw))
  have hown : s.vm.findClass RL = some m.cls := findClass_of_methodNamed B.named
  have htab : c.exceptionTable.toList = tableOf hhL := vx_table (x := yL_height) B (hts wcL List.mem_cons_self)
  have hx := B.exec
  have hb := B.bytes
  have hlk := B.notSynchronized
  have hr0 := B.returns
  rw [lg_entry_eq]
  have hl := lv_entry [Value.ref (adr X 0), .int (iI p), .ref (adr X 70)] (n := 4) (Nat.le_of_ble_eq_true rfl)
  generalize (lg_sl [Value.ref (adr X 0), .int (iI p), .ref (adr X 70)] ++ List.replicate (4 - (lg_sl [Value.ref (adr X 0), .int (iI p), .ref (adr X 70)]).length) Slot.unset).toArray = ls at hl ⊢
  have hl : lv_has ls 4 [(0, .ref (adr X 0)), (1, .int (iI p)), (2, .ref (adr X 70))] := hl
  refine lv_aload_n hx hb dL_height_0 rfl (lvGet_at hl rfl) ?_
  refine lv_iconst hx hb dL_height_1 rfl ?_
  refine lv_aload_n hx hb dL_height_2 rfl (lvGet_at hl rfl) ?_
  refine lv_iload_n hx hb dL_height_3 rfl (lvGet_at hl rfl) ?_
  obtain ⟨w1, w2, w3, w4, w5⟩ := mvX10_height
  have hgood : GoodIn wsG (wsM mX10_height) := by
    intro w hw
    have h1 : w ∈ wsG := by
      rcases List.mem_cons.mp hw with rfl | h
      · exact w4
      · exact h
    exact ⟨h1, good_of_word (List.mem_filter.mp h1).2⟩
  have hcw : ∀ w ∈ wsM mX10_height ++ nbw, ∀ (a' : Array Value) (U : State), s.WarmedH U.vm → w.before a' U = true := by
    intro w hw a' U hW
    rcases List.mem_append.mp hw with h1 | h1
    · exact pay_in htG hgood w h1 a' U hW
    · exact nbw_warm htN hW w h1
  have hrecv := va_recv hK hP (q := vwCl[10]) rfl (wld_at (X := X) (h := h) (a := 0) rfl)
  have hr := vx_runV (C := RX10) (b := adr X 0) (As := [.int (iI p)]) (rest := [.int (iI 0), .ref (adr X 70)]) (e := e) (R := rmLH) (below := below) (meth := meth) (locs := []) (cells := 0) (slots := 0) (g := F0 m 4 ls [.int (iI p), .ref (adr X 0), .int (iI 0), .ref (adr X 70)]) ⟨hx, hb, hml, hown, hts⟩ (S_X10_height hl0 a o hp s.heap.size)
    ⟨⟨rfl, rfl, by decide, by decide, hcw, List.mem_append_left _ List.mem_cons_self, htG _ w4, htG _ w3, ⟨w5.1, w5.2.1⟩, fun sig h9 => by have h8 := w5.2.2; rw [h9] at h8; exact (Option.some.inj h8).symm, htG _ mlL_7⟩, htG _ w1, htG _ w2⟩
    ⟨pw_blind, hrecv, fun U hU hW => ⟨rfl, by rw [hU], by rw [hU]; exact hP, va_K.moved hW.alike hK, EXT.go hE hW (fun q _ _ => by rw [hU]) (fun q hq => by rw [hU] at hq; exact hq), hi⟩⟩ rfl rfl hl.1 rfl (lv_room (Nat.le_of_ble_eq_true rfl)) dL_height_4 ⟨by decide, by decide⟩
  intro T hT XT
  rcases hr T hT XT with ⟨v, st₀, t, T', L, h0, X', hLo, e1, e2, ⟨⟨r, h', hv, ⟨⟨rfl, rfl⟩, hpp⟩, hbb⟩, hz, hk⟩, stp⟩ | ⟨q, st₀, t, T', L, E, ce, h0, X', hLo, e1, e2, ⟨rfl, hpp, H9, locs9, hP9, hS9, hz9, hk9⟩, hce, hcv, hcl, stx⟩
  · cases hv
    rw [h0] at hz hk
    have hS' : va_S (AW X s.heap.size) s.heap T'.heap ([] ++ L) := by
      refine ⟨by rw [e1]; exact hz, fun q h1 h2 => by rw [e1]; exact hk q h1 h2, fun q hq => hLo q ?_⟩
      exact hq
    have hP' : va_P X.2.1 vwCl (wld X h') T'.heap := by rw [e1]; exact hbb
    have kk : W p9 X.1 e rmLH s m [Value.ref (adr X 0), .int (iI p), .ref (adr X 70)].toArray below meth c T'.heap ([] ++ L) (0 + 1) (0 + 6) (vx_MQ below (QP X (PLh h' σ p)) (fun _ _ _ => False) [Value.ref (adr X 0), .int (iI p), .ref (adr X 70)].toArray s 1 6 (AW X s.heap.size)) (F0 m 7 ls [.int (iI (htO h' (hR h' 0 6) p)), .int (iI 0), .ref (adr X 70)]) := by
      refine lv_i2l hx hb dL_height_7 rfl ?_
      obtain ⟨c1, c2⟩ := iI_clamp (z := 0) (n := 1) (by decide) (by decide) (by decide)
      refine va_last hx hb hK hP' (wld_D hi s.heap.size h') hS' 70 2 (wld_at (a := 70) rfl) rfl c1 dL_height_8 (fun H1 locs1 hP1 _ hS1 => ?_)
      have e9 : vp_updL (fun j => hL h' 70 j) 0 (iI (htO h' (hR h' 0 6) p)).toInt64 = fun j => hL (sL h' 70 0 (iI (htO h' (hR h' 0 6) p)).toInt64) 70 j := by
        funext j
        unfold vp_updL
        rw [hL_sL]
        by_cases hj : j = 0
        · rw [if_pos hj, if_pos ⟨rfl, hj⟩]
        · rw [if_neg hj, if_neg (fun q => hj q.2)]
      rw [show (iI 0).toNatClampNeg = 0 from rfl, e9] at hP1
      rw [show (wld X h').set 70 (adr X 70, .inl (X.2.2.1 2, 1, .inr (.inl (fun j => hL (sL h' 70 0 (iI (htO h' (hR h' 0 6) p)).toInt64) 70 j)))) = wld X (sL h' 70 0 (iI (htO h' (hR h' 0 6) p)).toInt64) from wld_set (a := 70) rfl rfl so_sL] at hP1
      refine lv_goto hx hb dL_height_9 (tgt := 15) rfl ?_
      refine lv_iconst hx hb dL_height_15 rfl ?_
      refine W.widen (k := 1) (n := 6) (by decide) (by decide) ?_
      refine vx_ret (W.iret hx hb hr0 (fun t ht _ => ⟨⟨_, _, rfl, ?_, by rw [ht]; exact hP1⟩, hS1.F ht⟩) hS1.2.2 dL_height_16 hlk)
      exact Or.inl ⟨hpp, rfl, by rw [a.high hpp]⟩
    obtain ⟨t2, a1, b1⟩ := kk T' rfl X'
    exact ⟨t2, stp t2 a1, b1⟩
  · rw [h0] at hS9
    have hP' : va_P X.2.1 vwCl (wld X h) T'.heap := by
      rw [e1]
      exact hP9.kept (fun k q hq => hk9 q.1 (hP9 k q hq).lt)
    have hS' : va_S (AW X s.heap.size) s.heap T'.heap ([] ++ L) := by
      refine ⟨by rw [e1]; exact Nat.le_trans hS9.1 hz9, fun q h1 h2 => ?_, fun q hq => hLo q hq⟩
      rw [e1, hk9 q (Nat.lt_of_lt_of_le h1 hS9.1)]
      exact hS9.2.1 q h1 h2
    have kk : vx_W p9 X.1 e rmLH s m [Value.ref (adr X 0), .int (iI p), .ref (adr X 70)].toArray below meth c T'.heap ([] ++ L) (0 + 1) (0 + 6) (vx_MQ below (QP X (PLh h σ p)) (fun _ _ _ => False) [Value.ref (adr X 0), .int (iI p), .ref (adr X 70)].toArray s 1 6 (AW X s.heap.size)) (F0 m 4 ls [.int (iI 0), .ref (adr X 70)]) q := by
      refine hc_take hown (suf := []) (htab.trans rfl) (by decide) (by decide) (htG _ kc13) (htN _ kcast) (by rw [e1]; exact hce) hcv hcl ?_
      refine lv_astore_n hx hb dL_height_12 rfl hl (by decide) rfl (fun ls hl => ?_)
      refine lv_iconst hx hb dL_height_13 rfl ?_
      refine W.widen (k := 1) (n := 6) (by decide) (by decide) ?_
      refine vx_ret (W.iret hx hb hr0 (fun t ht _ => ⟨⟨_, h, rfl, ?_, by rw [ht]; exact hP'⟩, hS'.F ht⟩) hS'.2.2 dL_height_14 hlk)
      exact Or.inr ⟨hpp, rfl, rfl⟩
    obtain ⟨t2, a1, b1⟩ := kk T' rfl X'
    exact ⟨t2, stx.trans a1, b1⟩
