/-! the reference: the levellest; chances -/
section Rules
variable {X : Cx} {M : Mt} {R : Room} {cn sn pc : Nat} {Qf : State → Array Value → List Frame → State → Prop} {lv : List (Nat × Value)} {st : List Value} {h : Hp}
theorem wp_lnegI {a : Int} (hd : decode M.2.1 pc = .ok (.lneg, 1)) (k : WG X M R cn sn Qf (pc + 1) lv (.long (lI (-a)) :: st) h) : WG X M R cn sn Qf pc lv (.long (lI a) :: st) h := by
  intro p e s m args below meth c H locs ls hC hP hS hl
  refine lv_lneg hC.1 hC.2.1 hd ?_
  rw [show - lI a = lI (-a) from (Int64.ofInt_neg a).symm]
  exact k p e s m args below meth c H locs _ hC hP hS hl
theorem wp_lmulI {a b : Int} (hd : decode M.2.1 pc = .ok (.lmul, 1)) (k : WG X M R cn sn Qf (pc + 1) lv (.long (lI (a * b)) :: st) h) : WG X M R cn sn Qf pc lv (.long (lI b) :: .long (lI a) :: st) h := by
  refine wp_lmul hd ?_
  rw [lI_mul]
  exact k
theorem wp_laddI {a b : Int} (hd : decode M.2.1 pc = .ok (.ladd, 1)) (k : WG X M R cn sn Qf (pc + 1) lv (.long (lI (a + b)) :: st) h) : WG X M R cn sn Qf pc lv (.long (lI b) :: .long (lI a) :: st) h := by
  refine wp_ladd hd ?_
  rw [lI_add]
  exact k
theorem wp_ldivI {a b : Int} (hd : decode M.2.1 pc = .ok (.ldiv, 1)) (ha : 0 ≤ a ∧ a ≤ 1000000000000) (hb : 0 < b ∧ b ≤ 1000000000000) (k : WG X M R cn sn Qf (pc + 1) lv (.long (lI (a / b)) :: st) h) : WG X M R cn sn Qf pc lv (.long (lI b) :: .long (lI a) :: st) h := by
  refine wp_ldiv hd (fun q => ?_) ?_
  · have := (lI_eq (a := b) (b := 0) (by unfold InL; omega) (by unfold InL; omega)).mp q
    omega
  · rw [lI_div (by unfold InL; omega) (by unfold InL; omega) (by rw [Int.tdiv_eq_ediv_of_nonneg ha.1]; have q1 := Int.ediv_nonneg ha.1 (by omega : (0 : Int) ≤ b); have q2 := Int.ediv_le_self b ha.1; unfold InL; omega), Int.tdiv_eq_ediv_of_nonneg ha.1]
    exact k
end Rules
theorem hL_same {h : Hp} {a j : Nat} {v : Int64} : hL (sL h a j v) a j = v := by rw [hL_sL, if_pos ⟨rfl, rfl⟩]
theorem KM.sL {h : Hp} {j : Nat} {v : Int64} : KM h (sL h 47 j v) := ⟨fun _ _ _ => rfl, fun c hc => by funext k; show up2 h.2.1 47 j v c k = _; unfold up2; rw [if_neg (fun q => hc q.1)], fun _ _ _ => rfl, Or.inl rfl⟩

set_option maxRecDepth 20000 in
theorem S_J9_abs_067f4 {X : Cx} {h : Hp} {x : Int} (hx : -1000000000000 ≤ x ∧ x ≤ 1000000000000) : Spec X mJ9_abs_067f4 0 [.long (lI x)] h (fun rv h' => rv = some (.long (lI (iabs x))) ∧ h' = h) := by
  refine spec_wpF (Nat.le_of_ble_eq_true rfl) (by decide +kernel) ?_
  refine wp_loc [(0, .long (lI x))] ⟨rfl, trivial⟩ ?_
  refine wp_lload_n dJ9_abs_067f4_0 rfl ?_
  refine wp_lconst (v := lI 0) dJ9_abs_067f4_1 rfl ?_
  refine wp_lcmp dJ9_abs_067f4_2 ?_
  refine wp_ifge 11 dJ9_abs_067f4_3 (by decide) (lcm_R _ _) (fun c3 => ?_) (fun c3 => ?_)
  · refine wp_lload_n dJ9_abs_067f4_11 rfl ?_
    exact wp_lret dJ9_abs_067f4_12 rfl (⟨by refine congrArg some (congrArg Value.long (congrArg lI ?_)); unfold iabs; have q := lcm_ge (a := x) (b := 0) (by unfold InL; omega) (by unfold InL; omega); first | (rw [if_pos (q.mp c3)]; done) | (rw [if_neg (fun z => c3 (q.mpr z))]; done), rfl⟩)
  · refine wp_lload_n dJ9_abs_067f4_6 rfl ?_
    refine wp_lnegI dJ9_abs_067f4_7 ?_
    refine wp_goto 12 dJ9_abs_067f4_8 (by decide) ?_
    exact wp_lret dJ9_abs_067f4_12 rfl (⟨by refine congrArg some (congrArg Value.long (congrArg lI ?_)); unfold iabs; have q := lcm_ge (a := x) (b := 0) (by unfold InL; omega) (by unfold InL; omega); first | (rw [if_pos (q.mp c3)]; done) | (rw [if_neg (fun z => c3 (q.mpr z))]; done), rfl⟩)

def tvF (G : Gdn) (γ : Int → Int) (P p l : Int) : Int := iabs (slnF G p l * (plc γ P p 2 - plc γ P p 1) + slnF G (nx P p) l * plc γ P p 1)
def ttF (G : Gdn) (γ : Int → Int) (P p : Int) : Nat → Int → Int → Int
  | 0, _, t => t
  | n + 1, l, t => ttF G γ P p n (l + 1) (max t (tvF G γ P p l))
theorem tvF_b {G : Gdn} (g : GOK G) {γ : Int → Int} {P p l : Int} (h1 : -1000 ≤ γ p ∧ γ p ≤ 1000) (h2 : -1000 ≤ γ (nx P p) ∧ γ (nx P p) ≤ 1000) : -792000 ≤ slnF G p l * (plc γ P p 2 - plc γ P p 1) + slnF G (nx P p) l * plc γ P p 1 ∧ slnF G p l * (plc γ P p 2 - plc γ P p 1) + slnF G (nx P p) l * plc γ P p 1 ≤ 792000 := by
  have b := plc_b h1 h2
  have s1 := slnF_b g p l
  have s2 := slnF_b g (nx P p) l
  have m1 := mul_b (s := slnF G p l) (z := plc γ P p 2 - plc γ P p 1) (A := 198) (B := 2000) s1 (by omega) (by decide)
  have m2 := mul_b (s := slnF G (nx P p) l) (z := plc γ P p 1) (A := 198) (B := 2000) s2 (by omega) (by decide)
  omega
theorem iabs_nn (x : Int) : 0 ≤ iabs x := by unfold iabs; split <;> omega
theorem ttF_2 (G : Gdn) (γ : Int → Int) (p : Int) : ttF G γ (gP G) p 2 0 0 = tpF G p (plc γ (gP G) p 1) (plc γ (gP G) p 2) := by
  unfold ttF ttF ttF tpF
  have h0 := iabs_nn (slnF G p 0 * (plc γ (gP G) p 2 - plc γ (gP G) p 1) + slnF G (nx (gP G) p) 0 * plc γ (gP G) p 1)
  show max (max 0 (tvF G γ (gP G) p 0)) (tvF G γ (gP G) p 1) = _
  unfold tvF
  omega

set_option maxRecDepth 20000 in
theorem S_X11_layTilt {X : Cx} {h : Hp} {G : Gdn} {γ : Int → Int} {P k p T : Int} {L : List Int} (gk : GOK G) (hP0 : 0 < gP G) (hG : GM h = gE G) (hP : P = gP G) (hγ : γ = gapF G) (s : STA h γ P L) (hk : 0 ≤ k) (hq : L[k.toNat]? = some p) (hl : L.length ≤ 48) (hp : 0 ≤ p ∧ p < gP G) (hT : T = ttF G γ P p 2 0 0) : Spec X mX11_layTilt 6 [.ref (adr X 47), .int (iI k)] h (fun rv h' => rv = none ∧ h' = sL h 47 36 (lI T)) := by
  have s2 := s.2 _ _ hq
  have kl : k.toNat < L.length := (List.getElem?_eq_some_iff.mp hq).1
  have nb : 0 ≤ nx P p ∧ nx P p < gP G := by rw [← hP]; exact arnd_b (by omega)
  have gb := gk.b
  have e24 : hI h 47 24 = P := by rw [hP]; exact congrArg gP hG
  have gb1 : -1000 ≤ γ p ∧ γ p ≤ 1000 := by rw [hγ]; have := gapF_b gk p; omega
  have gb2 : -1000 ≤ γ (nx P p) ∧ γ (nx P p) ≤ 1000 := by rw [hγ]; have := gapF_b gk (nx P p); omega
  have pb := plc_b gb1 gb2
  refine spec_wp (Nat.le_of_ble_eq_true rfl) (by decide +kernel) ?_
  refine wp_loc [(0, .ref (adr X 47)), (1, .int (iI k))] ⟨rfl, rfl, trivial⟩ ?_
  have Lti : ∀ (n : Nat) (l t : Int), (l + n = 2 ∧ 0 ≤ l) → (0 ≤ t ∧ t ≤ 792000) → (T = ttF G γ P p n l t) → WP X mX11_layTilt 6 24 [(0, .ref (adr X 47)), (1, .int (iI k)), (2, .int (iI p)), (3, .int (iI (nx P p))), (4, .int (iI l))] [] (sL h 47 36 (lI t)) (fun rv h' => rv = none ∧ h' = sL h 47 36 (lI T)) := by
    intro n
    induction n with
    | zero =>
      intro l t hn ht hV
      refine wp_iload dX11_layTilt_24 rfl ?_
      refine wp_iconst dX11_layTilt_26 ?_
      refine wp_icmpge 94 dX11_layTilt_27 (by decide) (by unfold InR; omega) (by unfold InR; omega) (fun c27 => ?_) (fun c27 => ?_)
      · exact wp_ret dX11_layTilt_94 rfl (⟨rfl, by rw [hV]; rfl⟩)
      · exact absurd c27 (by omega)
    | succ n ih =>
      intro l t hn ht hV
      refine wp_iload dX11_layTilt_24 rfl ?_
      refine wp_iconst dX11_layTilt_26 ?_
      refine wp_icmpge 94 dX11_layTilt_27 (by decide) (by unfold InR; omega) (by unfold InR; omega) (fun c27 => ?_) (fun c27 => ?_)
      · exact absurd c27 (by omega)
      · have em1 : GM (sL h 47 36 (lI t)) = gE G := hG
        have tb := tvF_b gk (γ := γ) (P := P) (p := p) (l := l) gb1 gb2
        have ta := iabs_b (n := 792000) tb
        have sb1 := slnF_b gk p l
        have sb2 := slnF_b gk (nx P p) l
        refine wp_aload_n dX11_layTilt_30 rfl ?_
        refine wp_iload dX11_layTilt_31 rfl ?_
        refine wp_iload_n dX11_layTilt_33 rfl ?_
        refine wp_callVp dX11_layTilt_34 mlX11_302 mvX11_slant (S_X11_slant (p := p) (l := l) (by rw [em1]; exact gk.b2 hP0) (by rw [em1]; exact hp) (by omega)) rfl rfl (by decide) (by decide) rfl rfl rfl (Nat.le_of_ble_eq_true rfl) ?_
        rw [em1]
        rw [show slnF (gE G) p l = slnF G p l from rfl]
        refine wp_i2lI dX11_layTilt_37 (by first | assumption | (unfold InR; omega)) ?_
        refine wp_aload_n dX11_layTilt_38 rfl ?_
        refine wp_getC dX11_layTilt_39 flX11_65 rfl rfl ?_
        refine wp_iload_n dX11_layTilt_42 rfl ?_
        refine wp_iald (n := 48) dX11_layTilt_43 rfl (by omega) (by omega) ?_
        rw [show hI (sL h 47 36 (lI t)) 60 k.toNat = plc γ P p 2 from s2.2.2]
        refine wp_aload_n dX11_layTilt_44 rfl ?_
        refine wp_getC dX11_layTilt_45 flX11_62 rfl rfl ?_
        refine wp_iload_n dX11_layTilt_48 rfl ?_
        refine wp_iald (n := 48) dX11_layTilt_49 rfl (by omega) (by omega) ?_
        rw [show hI (sL h 47 36 (lI t)) 59 k.toNat = plc γ P p 1 from s2.2.1]
        refine wp_isub dX11_layTilt_50 ?_
        refine wp_i2lI dX11_layTilt_51 (by first | assumption | (unfold InR; omega)) ?_
        refine wp_lmulI dX11_layTilt_52 ?_
        refine wp_aload_n dX11_layTilt_53 rfl ?_
        refine wp_iload dX11_layTilt_54 rfl ?_
        refine wp_iload_n dX11_layTilt_56 rfl ?_
        refine wp_callVp dX11_layTilt_57 mlX11_302 mvX11_slant (S_X11_slant (p := nx P p) (l := l) (by rw [em1]; exact gk.b2 hP0) (by rw [em1]; exact nb) (by omega)) rfl rfl (by decide) (by decide) rfl rfl rfl (Nat.le_of_ble_eq_true rfl) ?_
        rw [em1]
        rw [show slnF (gE G) (nx P p) l = slnF G (nx P p) l from rfl]
        refine wp_i2lI dX11_layTilt_60 (by first | assumption | (unfold InR; omega)) ?_
        refine wp_aload_n dX11_layTilt_61 rfl ?_
        refine wp_getC dX11_layTilt_62 flX11_62 rfl rfl ?_
        refine wp_iload_n dX11_layTilt_65 rfl ?_
        refine wp_iald (n := 48) dX11_layTilt_66 rfl (by omega) (by omega) ?_
        rw [show hI (sL h 47 36 (lI t)) 59 k.toNat = plc γ P p 1 from s2.2.1]
        refine wp_i2lI dX11_layTilt_67 (by first | assumption | (unfold InR; omega)) ?_
        refine wp_lmulI dX11_layTilt_68 ?_
        refine wp_laddI dX11_layTilt_69 ?_
        refine wp_lstore dX11_layTilt_70 (by decide) ?_
        refine wp_aload_n dX11_layTilt_72 rfl ?_
        refine wp_aload_n dX11_layTilt_73 rfl ?_
        refine wp_getL dX11_layTilt_74 flX11_332 rfl rfl ?_
        rw [hL_same]
        refine wp_lload dX11_layTilt_77 rfl ?_
        refine wp_callSp dX11_layTilt_79 mlX11_336 msJ9_abs_067f4 (S_J9_abs_067f4 (by omega)) rfl rfl (by decide) (by decide) (Nat.le_of_ble_eq_true rfl) ?_
        refine wp_callSp dX11_layTilt_82 mlX11_153 msJ9_max_f86c9 (S_J9_max_f86c9 (by unfold InL; omega) (by unfold InL; omega)) rfl rfl (by decide) (by decide) (Nat.le_of_ble_eq_true rfl) ?_
        refine wp_putL dX11_layTilt_85 plX11_332 rfl rfl ?_
        rw [sL_sL]
        refine wp_iinc dX11_layTilt_88 rfl (by decide) ?_
        refine wp_goto 24 dX11_layTilt_91 (by decide) ?_
        refine wp_loc [(0, .ref (adr X 47)), (1, .int (iI k)), (2, .int (iI p)), (3, .int (iI (nx P p))), (4, .int (iI (l + 1)))] ⟨rfl, rfl, rfl, rfl, rfl, trivial⟩ ?_
        exact ih (l + 1) _ (by omega) (by omega) hV
  refine wp_aload_n dX11_layTilt_0 rfl ?_
  refine wp_getC dX11_layTilt_1 flX11_59 rfl rfl ?_
  refine wp_iload_n dX11_layTilt_4 rfl ?_
  refine wp_iald (n := 48) dX11_layTilt_5 rfl (by omega) (by omega) ?_
  rw [s2.1]
  refine wp_istore_n dX11_layTilt_6 (by decide) ?_
  refine wp_iload_n dX11_layTilt_7 rfl ?_
  refine wp_iconst dX11_layTilt_8 ?_
  refine wp_iadd dX11_layTilt_9 ?_
  refine wp_aload_n dX11_layTilt_10 rfl ?_
  refine wp_getI dX11_layTilt_11 flX11_272 rfl rfl ?_
  rw [e24]
  refine wp_iremp dX11_layTilt_14 (by omega) (by omega) (by unfold InR; omega) (by unfold InR; omega) ?_
  rw [show (p + 1) % P = nx P p from arnd_mod (by omega) (by omega)]
  refine wp_istore_n dX11_layTilt_15 (by decide) ?_
  refine wp_aload_n dX11_layTilt_16 rfl ?_
  refine wp_lconst (v := lI 0) dX11_layTilt_17 rfl ?_
  refine wp_putL dX11_layTilt_18 plX11_332 rfl rfl ?_
  refine wp_iconst dX11_layTilt_21 ?_
  refine wp_istore dX11_layTilt_22 (by decide) ?_
  refine wp_loc [(0, .ref (adr X 47)), (1, .int (iI k)), (2, .int (iI p)), (3, .int (iI (nx P p))), (4, .int (iI 0))] ⟨rfl, rfl, rfl, rfl, rfl, trivial⟩ ?_
  exact Lti 2 0 0 (by omega) (by omega) hT

def lvQ (G : Gdn) (γ : Int → Int) : List Int → Int → Int → Int → Int
  | [], f, _, _ => f
  | p :: r, f, x, y => if f = -1 ∨ tpF G p (plc γ (gP G) p 1) (plc γ (gP G) p 2) * y < x * plc γ (gP G) p 2 then lvQ G γ r p (tpF G p (plc γ (gP G) p 1) (plc γ (gP G) p 2)) (plc γ (gP G) p 2) else lvQ G γ r f x y
theorem lvQ_eq (G : Gdn) (γ : Int → Int) : ∀ (n : Nat) (p f x y : Int), lvF G γ n p f x y = lvQ G γ (stLs (stb γ (gP G)) n p) f x y
  | 0, p, f, x, y => rfl
  | n + 1, p, f, x, y => by
    rw [lvF]
    by_cases h : stb γ (gP G) p = true
    · rw [if_pos h, stLs_t h, lvQ]
      split <;> exact lvQ_eq G γ n _ _ _ _
    · rw [if_neg h, stLs_f h]
      exact lvQ_eq G γ n _ _ _ _

set_option maxRecDepth 20000 in
theorem S_X11_level {X : Cx} {h : Hp} {σ : Sg} (am : AM h σ) (o : SOK σ) {w : Int} (hw : InR w) : Spec X mX11_level 60 [.ref (adr X 47), .int (iI w)] h (fun rv h' => rv = some (.long (lI (qLevel σ w))) ∧ AM h' σ ∧ sameC h h') := by
  refine spec_wp (Nat.le_of_ble_eq_true rfl) (by decide +kernel) ?_
  refine wp_loc [(0, .ref (adr X 47)), (1, .int (iI w))] ⟨rfl, rfl, trivial⟩ ?_
  refine wp_aload_n dX11_level_0 rfl ?_
  refine wp_iconst dX11_level_1 ?_
  refine wp_putI dX11_level_2 plX11_95 rfl rfl ?_
  have k0 : KM h (sI h 47 0 0) := KM.sI (by unfold SMx; omega)
  have am := am.km k0
  generalize sI h 47 0 0 = h0 at *
  have gk := o.2.2.2.1
  have gb := gk.b
  have gkb := gk.2.1
  have e4 : hI h0 47 24 = gP (sG σ) := am.2.2.2.2.1.1
  have e5 : hI h0 47 26 = gA (sG σ) := am.2.2.2.2.1.2.1
  have e6 : hI h0 47 27 = gK (sG σ) := am.2.2.2.2.1.2.2.1
  have em : GM h0 = gE (sG σ) := am.gm
  have ep : gP (GM h0) = gP (sG σ) := e4
  obtain ⟨V, hV0⟩ : ∃ V : Int, V = qLevel σ w := ⟨_, rfl⟩
  rw [← hV0]
  unfold qLevel at hV0
  refine wp_aload_n dX11_level_5 rfl ?_
  refine wp_getI dX11_level_6 flX11_272 rfl rfl ?_
  refine wp_ifeq 24 dX11_level_9 (by decide) (by first | assumption | (unfold InR; omega)) (fun c9 => ?_) (fun c9 => ?_)
  · refine wp_ldc2 (v := -1) dX11_level_24 klX11_341 ?_
    rw [show (-1 : Int64) = lI (-1) from rfl]
    exact wp_lret dX11_level_27 rfl (⟨by rw [hV0, if_pos (by omega)], am, k0.C⟩)
  · refine wp_iload_n dX11_level_12 rfl ?_
    refine wp_i2lI dX11_level_13 (by first | assumption | (unfold InR; omega)) ?_
    refine wp_lconst (v := 0) dX11_level_14 rfl ?_
    refine wp_ldc2 (v := 4) dX11_level_15 klX11_339 ?_
    refine wp_callSp dX11_level_18 mlX11_219 msX11_isIn (S_X11_isIn (a := w) (b := 0) (c := 4) (by first | (exact InR.L (by assumption)) | (unfold InL; omega)) (by unfold InL; omega) (by unfold InL; omega)) rfl rfl (by decide) (by decide) (Nat.le_of_ble_eq_true rfl) ?_
    refine wp_ifneb 28 dX11_level_21 (by decide) (fun c21 => ?_) (fun c21 => ?_)
    · refine wp_aload_n dX11_level_28 rfl ?_
      refine wp_callV dX11_level_29 mlX11_326 mvX11_layStands (S_X11_layStands (γ := gapF (sG σ)) (P := gP (sG σ)) (am.b2 o (by omega)) (by rw [em]; rfl) (by rw [em]; rfl) rfl) rfl rfl (by decide) (by decide) rfl rfl rfl (Nat.le_of_ble_eq_true rfl) ?_
      rintro rv h1 ⟨rfl, st1, kp1⟩
      have k1 := SST.km kp1
      have am1 := am.km k1
      have ll := stLs_len (stb (gapF (sG σ)) (gP (sG σ))) (gP (sG σ)).toNat 0
      obtain ⟨L, hL⟩ : ∃ L, L = stLs (stb (gapF (sG σ)) (gP (sG σ))) (gP (sG σ)).toNat 0 := ⟨_, rfl⟩
      rw [← hL] at st1 ll
      refine wp_iconst dX11_level_32 ?_
      refine wp_istore_n dX11_level_33 (by decide) ?_
      refine wp_lconst (v := lI 0) dX11_level_34 rfl ?_
      refine wp_lstore_n dX11_level_35 (by decide) ?_
      refine wp_lconst (v := lI 1) dX11_level_36 rfl ?_
      refine wp_lstore dX11_level_37 (by decide) ?_
      refine wp_iconst dX11_level_39 ?_
      refine wp_istore dX11_level_40 (by decide) ?_
      rw [if_neg (by omega)] at hV0
      obtain ⟨F, hF0⟩ : ∃ F, F = lvP (sG σ) := ⟨_, rfl⟩
      rw [← hF0] at hV0
      unfold lvP at hF0
      rw [lvQ_eq, ← hL] at hF0
      have hVV : V = if F = -1 then -1 else if w ≤ 2 then plc (gapF (sG σ)) (gP (sG σ)) F w else (if w = 3 then (tpF (sG σ) F (plc (gapF (sG σ)) (gP (sG σ)) F 1) (plc (gapF (sG σ)) (gP (sG σ)) F 2)) else (plc (gapF (sG σ)) (gP (sG σ)) F 2)) / gcdI (tpF (sG σ) F (plc (gapF (sG σ)) (gP (sG σ)) F 1) (plc (gapF (sG σ)) (gP (sG σ)) F 2)) (plc (gapF (sG σ)) (gP (sG σ)) F 2) := hV0
      have Llv : ∀ (n : Nat) (k : Nat) (bk f x y : Int) (h2 : Hp), (k + n = L.length) → ((bk = -1 ∧ f = -1 ∧ x = 0 ∧ y = 1 ∨ 0 ≤ bk ∧ bk ≤ 24 ∧ L[bk.toNat]? = some f ∧ 0 ≤ f ∧ f < gP (sG σ) ∧ x = (tpF (sG σ) f (plc (gapF (sG σ)) (gP (sG σ)) f 1) (plc (gapF (sG σ)) (gP (sG σ)) f 2)) ∧ y = (plc (gapF (sG σ)) (gP (sG σ)) f 2))) → (STA h2 (gapF (sG σ)) (gP (sG σ)) L) → (KM h h2) → (AM h2 σ) → (F = lvQ (sG σ) (gapF (sG σ)) (L.drop k) f x y) → WP X mX11_level 60 42 [(0, .ref (adr X 47)), (1, .int (iI w)), (2, .int (iI bk)), (3, .long (lI x)), (5, .long (lI y)), (7, .int (iI (k : Int)))] [] h2 (fun rv h' => rv = some (.long (lI V)) ∧ AM h' σ ∧ sameC h h') := by
        intro n
        induction n with
        | zero =>
          intro k bk f x y h2 hn hst st2 k2 am2 hV
          have pb := fun q => plc_b (γ := gapF (sG σ)) (P := gP (sG σ)) (p := q) (by have := gapF_b gk q; omega) (by have := gapF_b gk (nx (gP (sG σ)) q); omega)
          have tb := fun q => tpF_b gk (p := q) (x := plc (gapF (sG σ)) (gP (sG σ)) q 1) (y := plc (gapF (sG σ)) (gP (sG σ)) q 2) (by have := pb q; omega)
          have hxy : (0 ≤ x ∧ x ≤ 792000) ∧ 1 ≤ y ∧ y ≤ 2000 := by
            rcases hst with ⟨-, -, rfl, rfl⟩ | ⟨-, -, -, -, -, rfl, rfl⟩
            · omega
            · have := pb f; have := tb f; omega
          refine wp_iload dX11_level_42 rfl ?_
          refine wp_aload_n dX11_level_44 rfl ?_
          refine wp_getI dX11_level_45 flX11_317 rfl rfl ?_
          rw [st2.1]
          refine wp_icmpge 110 dX11_level_48 (by decide) (by unfold InR; omega) (by unfold InR; omega) (fun c48 => ?_) (fun c48 => ?_)
          · have hF : F = f := by rw [hV, List.drop_of_length_le (by omega)]; rfl
            rw [hF] at hVV
            refine wp_iload_n dX11_level_110 rfl ?_
            refine wp_iconst dX11_level_111 ?_
            refine wp_icmpne 119 dX11_level_112 (by decide) (by unfold InR; omega) (by unfold InR; omega) (fun c112 => ?_) (fun c112 => ?_)
            · obtain ⟨b0, b1, b2, b3, b4, b5, b6⟩ := hst.resolve_left (by omega)
              refine wp_iload_n dX11_level_119 rfl ?_
              refine wp_iconst dX11_level_120 ?_
              refine wp_icmpge 132 dX11_level_121 (by decide) (by first | assumption | (unfold InR; omega)) (by first | assumption | (unfold InR; omega)) (fun c121 => ?_) (fun c121 => ?_)
              · refine wp_lload_n dX11_level_132 rfl ?_
                refine wp_lload dX11_level_133 rfl ?_
                refine wp_callSp dX11_level_135 mlX11_98 msX11_common (S_X11_common 11 x y (by omega) (by omega) (by show _ < (2048 : Int); omega)) rfl rfl (by decide) (by decide) (Nat.le_of_ble_eq_true rfl) ?_
                have gp : 0 < gcdI x y := by unfold gcdI; have := Nat.gcd_pos_of_pos_right x.toNat (show 0 < y.toNat by omega); omega
                have gl : gcdI x y ≤ 1000000 := by unfold gcdI; have := Nat.gcd_le_right x.toNat (show 0 < y.toNat by omega); omega
                refine wp_lstore dX11_level_138 (by decide) ?_
                refine wp_iload_n dX11_level_140 rfl ?_
                refine wp_iconst dX11_level_141 ?_
                refine wp_icmpne 152 dX11_level_142 (by decide) (by first | assumption | (unfold InR; omega)) (by first | assumption | (unfold InR; omega)) (fun c142 => ?_) (fun c142 => ?_)
                · refine wp_lload dX11_level_152 rfl ?_
                  refine wp_lload dX11_level_154 rfl ?_
                  refine wp_ldivI dX11_level_156 (by omega) ⟨gp, by omega⟩ ?_
                  exact wp_lret dX11_level_157 rfl (by
              rw [if_neg (by omega), if_neg (by omega), if_neg c142, ← b5, ← b6] at hVV
              exact ⟨by rw [hVV], am2, k2.C⟩)
                · refine wp_lload_n dX11_level_145 rfl ?_
                  refine wp_lload dX11_level_146 rfl ?_
                  refine wp_ldivI dX11_level_148 (by omega) ⟨gp, by omega⟩ ?_
                  refine wp_goto 157 dX11_level_149 (by decide) ?_
                  exact wp_lret dX11_level_157 rfl (by
              rw [if_neg (by omega), if_neg (by omega), if_pos c142, ← b5, ← b6] at hVV
              exact ⟨by rw [hVV], am2, k2.C⟩)
              · refine wp_aload_n dX11_level_124 rfl ?_
                refine wp_iload_n dX11_level_125 rfl ?_
                refine wp_iload_n dX11_level_126 rfl ?_
                refine wp_callVp dX11_level_127 mlX11_329 mvX11_standOf (S_X11_standOf (q := f) st2 b0 b2 (by omega) (by omega)) rfl rfl (by decide) (by decide) rfl rfl rfl (Nat.le_of_ble_eq_true rfl) ?_
                have pR : InR (plc (gapF (sG σ)) (gP (sG σ)) f w) := plc_R (fun q _ _ => by have := gapF_b gk q; omega) ⟨b3, b4⟩ (by omega)
                refine wp_i2lI dX11_level_130 pR ?_
                exact wp_lret dX11_level_131 rfl (by
              rw [if_neg (by omega), if_pos (by omega)] at hVV
              exact ⟨by rw [hVV], am2, k2.C⟩)
            · refine wp_ldc2 (v := -1) dX11_level_115 klX11_341 ?_
              rw [show (-1 : Int64) = lI (-1) from rfl]
              exact wp_lret dX11_level_118 rfl (by
              have z : f = -1 := by rcases hst with q | q <;> omega
              rw [z, if_pos rfl] at hVV
              exact ⟨by rw [hVV], am2, k2.C⟩)
          · exact absurd c48 (by omega)
        | succ n ih =>
          intro k bk f x y h2 hn hst st2 k2 am2 hV
          have pb := fun q => plc_b (γ := gapF (sG σ)) (P := gP (sG σ)) (p := q) (by have := gapF_b gk q; omega) (by have := gapF_b gk (nx (gP (sG σ)) q); omega)
          have tb := fun q => tpF_b gk (p := q) (x := plc (gapF (sG σ)) (gP (sG σ)) q 1) (y := plc (gapF (sG σ)) (gP (sG σ)) q 2) (by have := pb q; omega)
          have hxy : (0 ≤ x ∧ x ≤ 792000) ∧ 1 ≤ y ∧ y ≤ 2000 := by
            rcases hst with ⟨-, -, rfl, rfl⟩ | ⟨-, -, -, -, -, rfl, rfl⟩
            · omega
            · have := pb f; have := tb f; omega
          refine wp_iload dX11_level_42 rfl ?_
          refine wp_aload_n dX11_level_44 rfl ?_
          refine wp_getI dX11_level_45 flX11_317 rfl rfl ?_
          rw [st2.1]
          refine wp_icmpge 110 dX11_level_48 (by decide) (by first | assumption | (unfold InR; omega)) (by first | assumption | (unfold InR; omega)) (fun c48 => ?_) (fun c48 => ?_)
          · exact absurd c48 (by omega)
          · obtain ⟨q9, hq9⟩ : ∃ q9, L[k]? = some q9 := ⟨_, List.getElem?_eq_getElem (by omega)⟩
            have s9 := st2.2 k q9 hq9
            have pq := stLs_pos (by rw [← hL]; exact hq9)
            have pb9 := pb q9
            have tb9 := tb q9
            have hd9 : L.drop k = q9 :: L.drop (k + 1) := by rw [List.drop_eq_getElem_cons (by omega)]; congr 1; exact Option.some.inj ((List.getElem?_eq_getElem (by omega)).symm.trans hq9)
            rw [hd9, lvQ] at hV
            have mb1 := mul_b (s := (tpF (sG σ) q9 (plc (gapF (sG σ)) (gP (sG σ)) q9 1) (plc (gapF (sG σ)) (gP (sG σ)) q9 2))) (z := y) (A := 792000) (B := 2000) (by omega) (by omega) (by decide)
            have mb2 := mul_b (s := x) (z := (plc (gapF (sG σ)) (gP (sG σ)) q9 2)) (A := 792000) (B := 2000) (by omega) (by omega) (by decide)
            refine wp_aload_n dX11_level_51 rfl ?_
            refine wp_iload dX11_level_52 rfl ?_
            refine wp_callV dX11_level_54 mlX11_343 mvX11_layTilt (S_X11_layTilt (G := sG σ) (p := q9) gk (by omega) am2.gm rfl rfl st2 (by omega) (by rw [show ((k : Int)).toNat = k by omega]; exact hq9) (by omega) (by omega) rfl) rfl rfl (by decide) (by decide) rfl rfl rfl (Nat.le_of_ble_eq_true rfl) ?_
            rintro rv h3 ⟨rfl, rfl⟩
            rw [ttF_2]
            have st3 : STA (sL h2 47 36 (lI (tpF (sG σ) q9 (plc (gapF (sG σ)) (gP (sG σ)) q9 1) (plc (gapF (sG σ)) (gP (sG σ)) q9 2)))) (gapF (sG σ)) (gP (sG σ)) L := st2
            have am3 := am2.km (KM.sL (h := h2) (j := 36) (v := lI (tpF (sG σ) q9 (plc (gapF (sG σ)) (gP (sG σ)) q9 1) (plc (gapF (sG σ)) (gP (sG σ)) q9 2))))
            have k3 := k2.tr (KM.sL (h := h2) (j := 36) (v := lI (tpF (sG σ) q9 (plc (gapF (sG σ)) (gP (sG σ)) q9 1) (plc (gapF (sG σ)) (gP (sG σ)) q9 2))))
            refine wp_iload_n dX11_level_57 rfl ?_
            refine wp_iconst dX11_level_58 ?_
            refine wp_icmpeq 86 dX11_level_59 (by decide) (by first | assumption | (unfold InR; omega)) (by first | assumption | (unfold InR; omega)) (fun c59 => ?_) (fun c59 => ?_)
            · refine wp_iload dX11_level_86 rfl ?_
              refine wp_istore_n dX11_level_88 (by decide) ?_
              refine wp_aload_n dX11_level_89 rfl ?_
              refine wp_getL dX11_level_90 flX11_332 rfl rfl ?_
              rw [hL_same]
              refine wp_lstore_n dX11_level_93 (by decide) ?_
              refine wp_aload_n dX11_level_94 rfl ?_
              refine wp_getC dX11_level_95 flX11_65 rfl rfl ?_
              refine wp_iload dX11_level_98 rfl ?_
              refine wp_iald (n := 48) dX11_level_100 rfl (by omega) (by omega) ?_
              rw [show hI (sL h2 47 36 (lI (tpF (sG σ) q9 (plc (gapF (sG σ)) (gP (sG σ)) q9 1) (plc (gapF (sG σ)) (gP (sG σ)) q9 2)))) 60 ((k : Int)).toNat = (plc (gapF (sG σ)) (gP (sG σ)) q9 2) from s9.2.2]
              refine wp_i2lI dX11_level_101 (by first | assumption | (unfold InR; omega)) ?_
              refine wp_lstore dX11_level_102 (by decide) ?_
              refine wp_iinc dX11_level_104 rfl (by decide) ?_
              refine wp_goto 42 dX11_level_107 (by decide) ?_
              rw [if_pos (Or.inl (by rcases hst with q | q <;> omega))] at hV
              refine wp_loc [(0, .ref (adr X 47)), (1, .int (iI w)), (2, .int (iI (k : Int))), (3, .long (lI (tpF (sG σ) q9 (plc (gapF (sG σ)) (gP (sG σ)) q9 1) (plc (gapF (sG σ)) (gP (sG σ)) q9 2)))), (5, .long (lI (plc (gapF (sG σ)) (gP (sG σ)) q9 2))), (7, .int (iI ((k + 1 : Nat) : Int)))] ⟨rfl, rfl, rfl, rfl, rfl, rfl, trivial⟩ ?_
              exact ih (k + 1) (k : Int) q9 _ _ _ (by omega) (Or.inr ⟨by omega, by omega, by rw [show ((k : Int)).toNat = k by omega]; exact hq9, by omega, by omega, rfl, rfl⟩) st3 k3 am3 hV
            · refine wp_aload_n dX11_level_62 rfl ?_
              refine wp_getL dX11_level_63 flX11_332 rfl rfl ?_
              rw [hL_same]
              refine wp_lload dX11_level_66 rfl ?_
              refine wp_lmulI dX11_level_68 ?_
              refine wp_lload_n dX11_level_69 rfl ?_
              refine wp_aload_n dX11_level_70 rfl ?_
              refine wp_getC dX11_level_71 flX11_65 rfl rfl ?_
              refine wp_iload dX11_level_74 rfl ?_
              refine wp_iald (n := 48) dX11_level_76 rfl (by omega) (by omega) ?_
              rw [show hI (sL h2 47 36 (lI (tpF (sG σ) q9 (plc (gapF (sG σ)) (gP (sG σ)) q9 1) (plc (gapF (sG σ)) (gP (sG σ)) q9 2)))) 60 ((k : Int)).toNat = (plc (gapF (sG σ)) (gP (sG σ)) q9 2) from s9.2.2]
              refine wp_i2lI dX11_level_77 (by first | assumption | (unfold InR; omega)) ?_
              refine wp_lmulI dX11_level_78 ?_
              refine wp_lcmp dX11_level_79 ?_
              refine wp_iflt 86 dX11_level_80 (by decide) (lcm_R _ _) (fun c80 => ?_) (fun c80 => ?_)
              · refine wp_iload dX11_level_86 rfl ?_
                refine wp_istore_n dX11_level_88 (by decide) ?_
                refine wp_aload_n dX11_level_89 rfl ?_
                refine wp_getL dX11_level_90 flX11_332 rfl rfl ?_
                rw [hL_same]
                refine wp_lstore_n dX11_level_93 (by decide) ?_
                refine wp_aload_n dX11_level_94 rfl ?_
                refine wp_getC dX11_level_95 flX11_65 rfl rfl ?_
                refine wp_iload dX11_level_98 rfl ?_
                refine wp_iald (n := 48) dX11_level_100 rfl (by omega) (by omega) ?_
                rw [show hI (sL h2 47 36 (lI (tpF (sG σ) q9 (plc (gapF (sG σ)) (gP (sG σ)) q9 1) (plc (gapF (sG σ)) (gP (sG σ)) q9 2)))) 60 ((k : Int)).toNat = (plc (gapF (sG σ)) (gP (sG σ)) q9 2) from s9.2.2]
                refine wp_i2lI dX11_level_101 (by first | assumption | (unfold InR; omega)) ?_
                refine wp_lstore dX11_level_102 (by decide) ?_
                refine wp_iinc dX11_level_104 rfl (by decide) ?_
                refine wp_goto 42 dX11_level_107 (by decide) ?_
                rw [if_pos (Or.inr (by rw [lcm_lt (by unfold InL; omega) (by unfold InL; omega)] at c80; exact c80))] at hV
                refine wp_loc [(0, .ref (adr X 47)), (1, .int (iI w)), (2, .int (iI (k : Int))), (3, .long (lI (tpF (sG σ) q9 (plc (gapF (sG σ)) (gP (sG σ)) q9 1) (plc (gapF (sG σ)) (gP (sG σ)) q9 2)))), (5, .long (lI (plc (gapF (sG σ)) (gP (sG σ)) q9 2))), (7, .int (iI ((k + 1 : Nat) : Int)))] ⟨rfl, rfl, rfl, rfl, rfl, rfl, trivial⟩ ?_
                exact ih (k + 1) (k : Int) q9 _ _ _ (by omega) (Or.inr ⟨by omega, by omega, by rw [show ((k : Int)).toNat = k by omega]; exact hq9, by omega, by omega, rfl, rfl⟩) st3 k3 am3 hV
              · refine wp_goto 104 dX11_level_83 (by decide) ?_
                refine wp_iinc dX11_level_104 rfl (by decide) ?_
                refine wp_goto 42 dX11_level_107 (by decide) ?_
                rw [if_neg (by rw [lcm_lt (by unfold InL; omega) (by unfold InL; omega)] at c80; omega)] at hV
                refine wp_loc [(0, .ref (adr X 47)), (1, .int (iI w)), (2, .int (iI bk)), (3, .long (lI x)), (5, .long (lI y)), (7, .int (iI ((k + 1 : Nat) : Int)))] ⟨rfl, rfl, rfl, rfl, rfl, rfl, trivial⟩ ?_
                exact ih (k + 1) bk f x y _ (by omega) hst st3 k3 am3 hV
      refine wp_loc [(0, .ref (adr X 47)), (1, .int (iI w)), (2, .int (iI (-1))), (3, .long (lI 0)), (5, .long (lI 1)), (7, .int (iI ((0 : Nat) : Int)))] ⟨rfl, rfl, rfl, rfl, rfl, rfl, trivial⟩ ?_
      exact Llv L.length 0 (-1) (-1) 0 1 h1 (by omega) (Or.inl ⟨rfl, rfl, rfl, rfl⟩) st1 (k0.tr k1) am1 hF0
    · refine wp_ldc2 (v := -1) dX11_level_24 klX11_341 ?_
      rw [show (-1 : Int64) = lI (-1) from rfl]
      exact wp_lret dX11_level_27 rfl (⟨by rw [hV0, if_pos (by omega)], am, k0.C⟩)

def glF (c : Int) : Nat → Int → Int → Int
  | 0, p, v => if v = 0 then p else 0
  | k + 1, p, v => glF c k (p * c / 100) (if ((k + 1 : Nat) : Int) % 2 = 0 then v - 1 else v + 1) + glF c k (p - p * c / 100) v
theorem glF_z (c : Int) : ∀ (k : Nat) (v : Int), glF c k 0 v = 0
  | 0, v => by unfold glF; split <;> rfl
  | k + 1, v => by
    unfold glF
    rw [Int.zero_mul, show (0 : Int) / 100 = 0 by decide, Int.sub_self, glF_z c k, glF_z c k]
    rfl
theorem glF_f (c : Int) : ∀ (k : Nat) (p v : Int), ((k : Int) / 2 < v ∨ (k : Int) - (k : Int) / 2 < -v) → glF c k p v = 0
  | 0, p, v, h => by unfold glF; rw [if_neg (by omega)]
  | k + 1, p, v, h => by
    unfold glF
    rw [glF_f c k _ _ (by split <;> omega), glF_f c k _ v (by omega)]
    rfl
theorem glF_s (c : Int) : ∀ (k : Nat) (p v : Int), glF c k p v = spF c k p v
  | 0, p, v => by
    unfold glF spF
    by_cases h : v = 0
    · rw [if_pos h]
      by_cases z : p = 0
      · rw [if_pos (Or.inl z), z]
      · rw [if_neg (by omega)]
    · rw [if_neg h, if_pos (Or.inr h)]
  | k + 1, p, v => by
    rw [spF]
    by_cases z : p = 0
    · rw [if_pos (Or.inl z), z]; exact glF_z c (k + 1) v
    · by_cases h : ((k + 1 : Nat) : Int) / 2 < v ∨ ((k + 1 : Nat) : Int) - ((k + 1 : Nat) : Int) / 2 < -v
      · rw [if_pos (Or.inr h)]; exact glF_f c (k + 1) p v h
      · rw [if_neg (fun q => q.elim z h), glF, glF_s c k, glF_s c k]

set_option maxRecDepth 20000 in
theorem S_X11_goLikely {X : Cx} {h : Hp} {c : Int} (hc : 0 ≤ c ∧ c ≤ 100) : ∀ (k : Nat) (p v : Int), 0 ≤ p ∧ p ≤ 1000000000 → k ≤ 100 → -2000 - (100 - (k : Int)) ≤ v ∧ v ≤ 2000 + (100 - (k : Int)) → Spec X mX11_goLikely k [.ref (adr X 47), .int (iI ((k : Nat) : Int)), .int (iI v), .int (iI p), .int (iI c)] h (fun rv h' => rv = some (.int (iI (glF c k p v))) ∧ h' = h) := by
  intro k
  induction k with
  | zero =>
    intro p v hp hk hv
    refine spec_wp (Nat.le_of_ble_eq_true rfl) (by decide +kernel) ?_
    refine wp_loc [(0, .ref (adr X 47)), (1, .int (iI ((0 : Nat) : Int))), (2, .int (iI v)), (3, .int (iI p)), (4, .int (iI c))] ⟨rfl, rfl, rfl, rfl, rfl, trivial⟩ ?_
    refine wp_iload_n dX11_goLikely_0 rfl ?_
    refine wp_ifne 14 dX11_goLikely_1 (by decide) (by unfold InR; omega) (fun c1 => ?_) (fun c1 => ?_)
    · exact absurd c1 (by omega)
    · refine wp_iload_n dX11_goLikely_4 rfl ?_
      refine wp_ifne 12 dX11_goLikely_5 (by decide) (by unfold InR; omega) (fun c5 => ?_) (fun c5 => ?_)
      · refine wp_iconst dX11_goLikely_12 ?_
        exact wp_iret dX11_goLikely_13 rfl (⟨vi (by unfold glF; first | rw [if_pos (by omega)] | rw [if_neg (by omega)]), rfl⟩)
      · refine wp_iload_n dX11_goLikely_8 rfl ?_
        refine wp_goto 13 dX11_goLikely_9 (by decide) ?_
        exact wp_iret dX11_goLikely_13 rfl (⟨vi (by unfold glF; first | rw [if_pos (by omega)] | rw [if_neg (by omega)]), rfl⟩)
  | succ k ih =>
    intro p v hp hk hv
    refine spec_wp (Nat.le_of_ble_eq_true rfl) (by decide +kernel) ?_
    refine wp_loc [(0, .ref (adr X 47)), (1, .int (iI ((k + 1 : Nat) : Int))), (2, .int (iI v)), (3, .int (iI p)), (4, .int (iI c))] ⟨rfl, rfl, rfl, rfl, rfl, trivial⟩ ?_
    refine wp_iload_n dX11_goLikely_0 rfl ?_
    refine wp_ifne 14 dX11_goLikely_1 (by decide) (by unfold InR; omega) (fun c1 => ?_) (fun c1 => ?_)
    · have pb := pc_b (p := p) hp.1 hc
      refine wp_iload_n dX11_goLikely_14 rfl ?_
      refine wp_i2lI dX11_goLikely_15 (by first | assumption | (unfold InR; omega)) ?_
      refine wp_iload dX11_goLikely_16 rfl ?_
      refine wp_i2lI dX11_goLikely_18 (by first | assumption | (unfold InR; omega)) ?_
      refine wp_lmulI dX11_goLikely_19 ?_
      refine wp_ldc2 (v := 100) dX11_goLikely_20 klX11_367 ?_
      rw [show (100 : Int64) = lI 100 from rfl]
      refine wp_ldivI dX11_goLikely_23 (by omega) (by omega) ?_
      refine wp_l2iI dX11_goLikely_24 ?_
      refine wp_istore dX11_goLikely_25 (by decide) ?_
      refine wp_iload_n dX11_goLikely_27 rfl ?_
      refine wp_iconst dX11_goLikely_28 ?_
      refine wp_iremp dX11_goLikely_29 (by omega) (by omega) (by unfold InR; omega) (by unfold InR; omega) ?_
      refine wp_ifne 39 dX11_goLikely_30 (by decide) (by unfold InR; omega) (fun c30 => ?_) (fun c30 => ?_)
      · refine wp_iload_n dX11_goLikely_39 rfl ?_
        refine wp_iconst dX11_goLikely_40 ?_
        refine wp_iadd dX11_goLikely_41 ?_
        rw [show v + 1 = (if ((k + 1 : Nat) : Int) % 2 = 0 then v - 1 else v + 1) by rw [if_neg c30]]
        refine wp_istore dX11_goLikely_42 (by decide) ?_
        refine wp_aload_n dX11_goLikely_44 rfl ?_
        refine wp_iload_n dX11_goLikely_45 rfl ?_
        refine wp_iconst dX11_goLikely_46 ?_
        refine wp_isub dX11_goLikely_47 ?_
        rw [show ((k + 1 : Nat) : Int) - 1 = ((k : Nat) : Int) by omega]
        refine wp_iload dX11_goLikely_48 rfl ?_
        refine wp_iload dX11_goLikely_50 rfl ?_
        refine wp_iload dX11_goLikely_52 rfl ?_
        refine wp_callVp dX11_goLikely_54 mlX11_369 mvX11_goLikely (ih (p * c / 100) _ (by omega) (by omega) (by split <;> omega)) rfl rfl (by omega) (by decide) rfl rfl rfl (Nat.le_of_ble_eq_true rfl) ?_
        refine wp_aload_n dX11_goLikely_57 rfl ?_
        refine wp_iload_n dX11_goLikely_58 rfl ?_
        refine wp_iconst dX11_goLikely_59 ?_
        refine wp_isub dX11_goLikely_60 ?_
        rw [show ((k + 1 : Nat) : Int) - 1 = ((k : Nat) : Int) by omega]
        refine wp_iload_n dX11_goLikely_61 rfl ?_
        refine wp_iload_n dX11_goLikely_62 rfl ?_
        refine wp_iload dX11_goLikely_63 rfl ?_
        refine wp_isub dX11_goLikely_65 ?_
        refine wp_iload dX11_goLikely_66 rfl ?_
        refine wp_callVp dX11_goLikely_68 mlX11_369 mvX11_goLikely (ih (p - p * c / 100) v (by omega) (by omega) (by omega)) rfl rfl (by omega) (by decide) rfl rfl rfl (Nat.le_of_ble_eq_true rfl) ?_
        refine wp_iadd dX11_goLikely_71 ?_
        exact wp_iret dX11_goLikely_72 rfl (⟨rfl, rfl⟩)
      · refine wp_iload_n dX11_goLikely_33 rfl ?_
        refine wp_iconst dX11_goLikely_34 ?_
        refine wp_isub dX11_goLikely_35 ?_
        refine wp_goto 42 dX11_goLikely_36 (by decide) ?_
        rw [show v - 1 = (if ((k + 1 : Nat) : Int) % 2 = 0 then v - 1 else v + 1) by rw [if_pos c30]]
        refine wp_istore dX11_goLikely_42 (by decide) ?_
        refine wp_aload_n dX11_goLikely_44 rfl ?_
        refine wp_iload_n dX11_goLikely_45 rfl ?_
        refine wp_iconst dX11_goLikely_46 ?_
        refine wp_isub dX11_goLikely_47 ?_
        rw [show ((k + 1 : Nat) : Int) - 1 = ((k : Nat) : Int) by omega]
        refine wp_iload dX11_goLikely_48 rfl ?_
        refine wp_iload dX11_goLikely_50 rfl ?_
        refine wp_iload dX11_goLikely_52 rfl ?_
        refine wp_callVp dX11_goLikely_54 mlX11_369 mvX11_goLikely (ih (p * c / 100) _ (by omega) (by omega) (by split <;> omega)) rfl rfl (by omega) (by decide) rfl rfl rfl (Nat.le_of_ble_eq_true rfl) ?_
        refine wp_aload_n dX11_goLikely_57 rfl ?_
        refine wp_iload_n dX11_goLikely_58 rfl ?_
        refine wp_iconst dX11_goLikely_59 ?_
        refine wp_isub dX11_goLikely_60 ?_
        rw [show ((k + 1 : Nat) : Int) - 1 = ((k : Nat) : Int) by omega]
        refine wp_iload_n dX11_goLikely_61 rfl ?_
        refine wp_iload_n dX11_goLikely_62 rfl ?_
        refine wp_iload dX11_goLikely_63 rfl ?_
        refine wp_isub dX11_goLikely_65 ?_
        refine wp_iload dX11_goLikely_66 rfl ?_
        refine wp_callVp dX11_goLikely_68 mlX11_369 mvX11_goLikely (ih (p - p * c / 100) v (by omega) (by omega) (by omega)) rfl rfl (by omega) (by decide) rfl rfl rfl (Nat.le_of_ble_eq_true rfl) ?_
        refine wp_iadd dX11_goLikely_71 ?_
        exact wp_iret dX11_goLikely_72 rfl (⟨rfl, rfl⟩)
    · exact absurd c1 (by omega)

set_option maxRecDepth 20000 in
theorem S_X11_likely {X : Cx} {h : Hp} {σ : Sg} (am : AM h σ) (o : SOK σ) {p n c : Int} (hp : InR p) (hn : InR n) (hc : InR c) : Spec X mX11_likely 60 [.ref (adr X 47), .int (iI p), .int (iI n), .int (iI c)] h (fun rv h' => rv = some (.int (iI (qLikely σ p n c))) ∧ AM h' σ ∧ sameC h h') := by
  refine spec_wp (Nat.le_of_ble_eq_true rfl) (by decide +kernel) ?_
  refine wp_loc [(0, .ref (adr X 47)), (1, .int (iI p)), (2, .int (iI n)), (3, .int (iI c))] ⟨rfl, rfl, rfl, rfl, trivial⟩ ?_
  refine wp_aload_n dX11_likely_0 rfl ?_
  refine wp_iconst dX11_likely_1 ?_
  refine wp_putI dX11_likely_2 plX11_95 rfl rfl ?_
  have k0 : KM h (sI h 47 0 0) := KM.sI (by unfold SMx; omega)
  have am := am.km k0
  generalize sI h 47 0 0 = h0 at *
  have gk := o.2.2.2.1
  have gb := gk.b
  have gkb := gk.2.1
  have e4 : hI h0 47 24 = gP (sG σ) := am.2.2.2.2.1.1
  have e5 : hI h0 47 26 = gA (sG σ) := am.2.2.2.2.1.2.1
  have e6 : hI h0 47 27 = gK (sG σ) := am.2.2.2.2.1.2.2.1
  have em : GM h0 = gE (sG σ) := am.gm
  have ep : gP (GM h0) = gP (sG σ) := e4
  have vb := gapF_b gk p
  refine wp_aload_n dX11_likely_5 rfl ?_
  refine wp_iload_n dX11_likely_6 rfl ?_
  refine wp_callVp dX11_likely_7 mlX11_290 mvX11_isTurning (S_X11_isTurning (by omega) (by first | assumption | (unfold InR; omega))) rfl rfl (by decide) (by decide) rfl rfl rfl (Nat.le_of_ble_eq_true rfl) ?_
  refine wp_ifeqb 56 dX11_likely_10 (by decide) (fun c10 => ?_) (fun c10 => ?_)
  · refine wp_iconst dX11_likely_56 ?_
    exact wp_iret dX11_likely_57 rfl (⟨vi (by unfold qLikely; rw [if_neg (by omega)]), am, k0.C⟩)
  · refine wp_iload_n dX11_likely_13 rfl ?_
    refine wp_i2lI dX11_likely_14 (by first | assumption | (unfold InR; omega)) ?_
    refine wp_lconst (v := 0) dX11_likely_15 rfl ?_
    refine wp_ldc2 (v := 3) dX11_likely_16 klX11_373 ?_
    refine wp_callSp dX11_likely_19 mlX11_219 msX11_isIn (S_X11_isIn (a := n) (b := 0) (c := 3) (by first | (exact InR.L (by assumption)) | (unfold InL; omega)) (by unfold InL; omega) (by unfold InL; omega)) rfl rfl (by decide) (by decide) (Nat.le_of_ble_eq_true rfl) ?_
    refine wp_ifeqb 56 dX11_likely_22 (by decide) (fun c22 => ?_) (fun c22 => ?_)
    · refine wp_iconst dX11_likely_56 ?_
      exact wp_iret dX11_likely_57 rfl (⟨vi (by unfold qLikely; rw [if_neg (by omega)]), am, k0.C⟩)
    · refine wp_iload_n dX11_likely_25 rfl ?_
      refine wp_i2lI dX11_likely_26 (by first | assumption | (unfold InR; omega)) ?_
      refine wp_lconst (v := 0) dX11_likely_27 rfl ?_
      refine wp_ldc2 (v := 100) dX11_likely_28 klX11_367 ?_
      refine wp_callSp dX11_likely_31 mlX11_219 msX11_isIn (S_X11_isIn (a := c) (b := 0) (c := 100) (by first | (exact InR.L (by assumption)) | (unfold InL; omega)) (by unfold InL; omega) (by unfold InL; omega)) rfl rfl (by decide) (by decide) (Nat.le_of_ble_eq_true rfl) ?_
      refine wp_ifeqb 56 dX11_likely_34 (by decide) (fun c34 => ?_) (fun c34 => ?_)
      · refine wp_iconst dX11_likely_56 ?_
        exact wp_iret dX11_likely_57 rfl (⟨vi (by unfold qLikely; rw [if_neg (by omega)]), am, k0.C⟩)
      · refine wp_aload_n dX11_likely_37 rfl ?_
        refine wp_iconst dX11_likely_38 ?_
        refine wp_iload_n dX11_likely_39 rfl ?_
        refine wp_imul dX11_likely_40 ?_
        rw [show 4 * n = (((4 * n).toNat : Nat) : Int) by omega]
        refine wp_aload_n dX11_likely_41 rfl ?_
        refine wp_iload_n dX11_likely_42 rfl ?_
        refine wp_callVp dX11_likely_43 mlX11_310 mvX11_gapOf (S_X11_gapOf (am.b2 o (by omega)) (by omega)) rfl rfl (by decide) (by decide) rfl rfl rfl (Nat.le_of_ble_eq_true rfl) ?_
        rw [em]
        rw [show gapF (gE (sG σ)) p = gapF (sG σ) p from rfl]
        refine wp_ldcw (z := 1000000000) dX11_likely_46 kcX11_375 ?_
        refine wp_iload_n dX11_likely_49 rfl ?_
        refine wp_callVp dX11_likely_50 mlX11_369 mvX11_goLikely (S_X11_goLikely (c := c) (by omega) (4 * n).toNat 1000000000 (gapF (sG σ) p) (by omega) (by omega) (by omega)) rfl rfl (by omega) (by decide) rfl rfl rfl (Nat.le_of_ble_eq_true rfl) ?_
        refine wp_goto 57 dX11_likely_53 (by decide) ?_
        exact wp_iret dX11_likely_57 rfl (⟨vi (by unfold qLikely; rw [if_pos (by omega)]; exact glF_s c _ _ _), am, k0.C⟩)

