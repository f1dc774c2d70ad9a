/-! the reference: the first within so much, how it serves, how rocky it is -/
def wiF (γ : Int → Int) (P p sp w : Int) : Int := if (0 ≤ p ∧ p < P) ∧ (0 ≤ sp ∧ sp ≤ P) ∧ 0 ≤ w ∧ w ≤ 2 then (if fwF γ P p sp (min (sp + 1) P).toNat 0 = -1 then -1 else plc γ P (fwF γ P p sp (min (sp + 1) P).toNat 0) w) else -1
def woF (γ : Int → Int) (P p sp w : Int) : Nat → Int → Int
  | 0, _ => -1
  | n + 1, f => if stb γ P (arnd P (p + f)) = true ∧ (f < sp ∨ γ (arnd P (p + f)) = 0) then plc γ P (arnd P (p + f)) w else woF γ P p sp w n (f + 1)
theorem woF_a {γ : Int → Int} {P p sp w : Int} (hp : 0 ≤ p ∧ p < P) : ∀ (n : Nat) (f : Int), 0 ≤ f → f + n = sp + 1 → sp < P → woF γ P p sp w n f = if fwF γ P p sp n f = -1 then -1 else plc γ P (fwF γ P p sp n f) w
  | 0, f, h0, h1, h2 => by rw [woF, fwF, if_pos rfl]
  | n + 1, f, h0, h1, h2 => by
    have b := arnd_b (P := P) (p := p + f) (by omega)
    rw [woF, fwF]
    by_cases hs : stb γ P (arnd P (p + f)) = true
    · rw [if_pos hs]
      by_cases hc : f < sp ∨ γ (arnd P (p + f)) = 0
      · rw [if_pos ⟨hs, hc⟩, if_pos (show γ (arnd P (p + f)) = 0 ∨ f < sp by omega), if_neg (by omega)]
      · rw [if_neg (fun q => hc q.2), if_neg (show ¬ (γ (arnd P (p + f)) = 0 ∨ f < sp) by omega), if_pos rfl]
        have hn : n = 0 := by omega
        subst hn
        rfl
    · rw [if_neg hs, if_neg (fun q => hs q.1)]
      exact woF_a hp n (f + 1) (by omega) (by omega) h2
theorem woF_c {γ : Int → Int} {P p sp w : Int} (hp : 0 ≤ p ∧ p < P) (hsp : sp = P) : ∀ (n : Nat) (f : Int), 0 ≤ f → f + n = P → woF γ P p sp w (n + 1) f = if fwF γ P p sp n f = -1 then woF γ P p sp w 1 P else plc γ P (fwF γ P p sp n f) w
  | 0, f, h0, h1 => by rw [fwF, if_pos rfl, show f = P by omega]
  | n + 1, f, h0, h1 => by
    have b := arnd_b (P := P) (p := p + f) (by omega)
    rw [woF, fwF]
    by_cases hs : stb γ P (arnd P (p + f)) = true
    · rw [if_pos hs, if_pos ⟨hs, Or.inl (by omega)⟩, if_pos (Or.inr (by omega)), if_neg (by omega)]
    · rw [if_neg hs, if_neg (fun q => hs q.1)]
      exact woF_c hp hsp n (f + 1) (by omega) (by omega)
theorem woF_ok {γ : Int → Int} {P p sp w : Int} (hp : 0 ≤ p ∧ p < P) (hsp : 0 ≤ sp ∧ sp ≤ P) : woF γ P p sp w (sp + 1).toNat 0 = if fwF γ P p sp (min (sp + 1) P).toNat 0 = -1 then -1 else plc γ P (fwF γ P p sp (min (sp + 1) P).toNat 0) w := by
  by_cases h : sp < P
  · rw [show min (sp + 1) P = sp + 1 by omega]
    exact woF_a hp _ _ (by omega) (by omega) h
  · have e : sp = P := by omega
    rw [show min (sp + 1) P = P by omega, show (sp + 1).toNat = P.toNat + 1 by omega, woF_c hp e P.toNat 0 (by omega) (by omega)]
    by_cases hf : fwF γ P p sp P.toNat 0 = -1
    · rw [if_pos hf, if_pos hf]
      have hs : ¬ stb γ P p = true := by
        intro hs
        obtain ⟨k, hk⟩ : ∃ k, P.toNat = k + 1 := ⟨P.toNat - 1, by omega⟩
        rw [hk, fwF, Int.add_zero, arnd_in hp.2, if_pos hs, if_pos (Or.inr (by omega))] at hf
        omega
      have ea : arnd P (p + P) = p := by unfold arnd; rw [if_pos (by omega)]; omega
      rw [woF, ea, if_neg (fun q => hs q.1)]
      rfl
    · rw [if_neg hf, if_neg hf]
theorem plc_z {γ : Int → Int} {P q : Int} : plc γ P q 1 = 0 ↔ γ q = 0 := by
  unfold plc
  rw [if_neg (by decide)]
  by_cases h : γ q = 0
  · rw [if_pos h, if_pos rfl]; exact ⟨fun _ => h, fun _ => rfl⟩
  · rw [if_neg h, if_pos rfl]
    have ip : 0 < iabs (γ q) := by unfold iabs; split <;> omega
    have cp := gcdI_pos (a := iabs (γ q)) (b := iabs (γ q) + iabs (γ (nx P q))) ip
    have cl := gcdI_le (a := iabs (γ q)) (b := iabs (γ q) + iabs (γ (nx P q))) ip
    have := Int.le_ediv_of_mul_le cp (show 1 * gcdI (iabs (γ q)) (iabs (γ q) + iabs (γ (nx P q))) ≤ iabs (γ q) by omega)
    constructor
    · intro e; omega
    · intro e; exact absurd e h
def STH (c j : Nat) : Prop := SST c j ∨ (c = 47 ∧ j = 0)
theorem STH.km {h h' : Hp} (k : Kp STH h h') : KM h h' := KM.kp k (by unfold STH SST SMx; omega)

theorem plc_R {γ : Int → Int} {P q w : Int} (hb : ∀ p, 0 ≤ p → p < P → -1000 ≤ γ p ∧ γ p ≤ 1000) (hq : 0 ≤ q ∧ q < P) (hP9 : P ≤ 1000) : InR (plc γ P q w) := by
  have n1 := arnd_b (P := P) (p := q + 1) (by omega)
  have h1 := hb q hq.1 hq.2
  have h2 := hb (nx P q) n1.1 n1.2
  have a1 := iabs_b (n := 1000) h1
  have a2 := iabs_b (n := 1000) h2
  unfold plc
  split
  · unfold InR; omega
  · split
    · split <;> (unfold InR; omega)
    · split
      · have := ediv_R (a := iabs (γ q)) (b := gcdI (iabs (γ q)) (iabs (γ q) + iabs (γ (nx P q)))) a1.1 (gcdI_pos (by unfold iabs; split <;> omega)) (by unfold InR; omega)
        exact this
      · exact ediv_R (by omega) (gcdI_pos (by unfold iabs; split <;> omega)) (by unfold InR; omega)

set_option maxRecDepth 20000 in
theorem S_X11_within_ {X : Cx} {h : Hp} {γ : Int → Int} {P p sp w V : Int} (hg : P = 0 ∨ GB2 (GM h)) (hγ : γ = gapF (GM h)) (hP : P = gP (GM h)) (hp0 : InR p) (hsp0 : InR sp) (hw0 : InR w) (hV0 : V = wiF γ P p sp w) : Spec X mX11_within_ 60 [.ref (adr X 47), .int (iI p), .int (iI sp), .int (iI w)] h (fun rv h' => rv = some (.int (iI V)) ∧ Kp STH h h') := by
  have hP24 : P = hI h 47 24 := hP
  have pb : 0 ≤ P ∧ P ≤ 24 := by
    rcases hg with q | q
    · omega
    · have := q.1; rw [← hP] at this; omega
  unfold wiF at hV0
  refine spec_wp (Nat.le_of_ble_eq_true rfl) (by decide +kernel) ?_
  refine wp_loc [(0, .ref (adr X 47)), (1, .int (iI p)), (2, .int (iI sp)), (3, .int (iI w))] ⟨rfl, rfl, rfl, rfl, trivial⟩ ?_
  refine wp_aload_n dX11_within__0 rfl ?_
  refine wp_iconst dX11_within__1 ?_
  refine wp_putI dX11_within__2 plX11_95 rfl rfl ?_
  have k0 : Kp STH h (sI h 47 0 0) := Kp.sI (Or.inr ⟨rfl, rfl⟩)
  have e0 : GM (sI h 47 0 0) = GM h := GM_km (STH.km k0)
  have e240 : hI (sI h 47 0 0) 47 24 = P := by rw [hI_sI, if_neg (by omega)]; exact hP24.symm
  generalize sI h 47 0 0 = h0 at *
  refine wp_aload_n dX11_within__5 rfl ?_
  refine wp_iload_n dX11_within__6 rfl ?_
  refine wp_callVp dX11_within__7 mlX11_290 mvX11_isTurning (S_X11_isTurning (by omega) (by first | assumption | (unfold InR; omega))) rfl rfl (by decide) (by decide) rfl rfl rfl (Nat.le_of_ble_eq_true rfl) ?_
  refine wp_ifeqb 39 dX11_within__10 (by decide) (fun c10 => ?_) (fun c10 => ?_)
  · refine wp_iconst dX11_within__39 ?_
    exact wp_iret dX11_within__40 rfl (⟨vi (by rw [hV0, if_neg (by omega)]), k0⟩)
  · refine wp_iload_n dX11_within__13 rfl ?_
    refine wp_i2lI dX11_within__14 (by first | assumption | (unfold InR; omega)) ?_
    refine wp_lconst (v := 0) dX11_within__15 rfl ?_
    refine wp_aload_n dX11_within__16 rfl ?_
    refine wp_getI dX11_within__17 flX11_272 rfl rfl ?_
    refine wp_i2lI dX11_within__20 (by first | assumption | (unfold InR; omega)) ?_
    refine wp_callSp dX11_within__21 mlX11_219 msX11_isIn (S_X11_isIn (a := sp) (b := 0) (c := (hI h0 47 24)) (by first | (exact InR.L (by assumption)) | (unfold InL; omega)) (by unfold InL; omega) (by unfold InL; omega)) rfl rfl (by decide) (by decide) (Nat.le_of_ble_eq_true rfl) ?_
    refine wp_ifeqb 39 dX11_within__24 (by decide) (fun c24 => ?_) (fun c24 => ?_)
    · refine wp_iconst dX11_within__39 ?_
      exact wp_iret dX11_within__40 rfl (⟨vi (by rw [hV0, if_neg (by omega)]), k0⟩)
    · refine wp_iload_n dX11_within__27 rfl ?_
      refine wp_i2lI dX11_within__28 (by first | assumption | (unfold InR; omega)) ?_
      refine wp_lconst (v := 0) dX11_within__29 rfl ?_
      refine wp_ldc2 (v := 2) dX11_within__30 klX11_324 ?_
      refine wp_callSp dX11_within__33 mlX11_219 msX11_isIn (S_X11_isIn (a := w) (b := 0) (c := 2) (by first | (exact InR.L (by assumption)) | (unfold InL; omega)) (by unfold InL; omega) (by unfold InL; omega)) rfl rfl (by decide) (by decide) (Nat.le_of_ble_eq_true rfl) ?_
      refine wp_ifneb 41 dX11_within__36 (by decide) (fun c36 => ?_) (fun c36 => ?_)
      · refine wp_aload_n dX11_within__41 rfl ?_
        refine wp_callV dX11_within__42 mlX11_326 mvX11_layStands (S_X11_layStands (γ := γ) (P := P) (h := h0) (by rw [e0]; exact hg.resolve_left (by omega)) (by rw [e0]; exact hγ) (by rw [e0]; exact hP) rfl) rfl rfl (by decide) (by decide) rfl rfl rfl (Nat.le_of_ble_eq_true rfl) ?_
        rintro rv h1 ⟨rfl, st1, kp1⟩
        have kp := k0.tr (kp1.mono (fun c j q => Or.inl q))
        have e24 : hI h1 47 24 = P := by rw [kp1.1 47 24 (by unfold SST; omega)]; exact e240
        have ll := stLs_len (stb γ P) P.toNat 0
        obtain ⟨L, hL⟩ : ∃ L, L = stLs (stb γ P) P.toNat 0 := ⟨_, rfl⟩
        rw [← hL] at st1 ll
        have hγb : ∀ p, 0 ≤ p → p < P → -1000 ≤ γ p ∧ γ p ≤ 1000 := fun p _ _ => by rw [hγ]; have := gap_b2 (hg.resolve_left (by omega)) p; omega
        rw [if_pos (by omega), ← woF_ok (by omega) (by omega)] at hV0
        refine wp_iconst dX11_within__45 ?_
        refine wp_istore dX11_within__46 (by decide) ?_
        have Lo : ∀ (n : Nat) (f : Int), (f + n = sp + 1 ∧ 0 ≤ f) → (V = woF γ P p sp w n f) → WP X mX11_within_ 60 48 [(0, .ref (adr X 47)), (1, .int (iI p)), (2, .int (iI sp)), (3, .int (iI w)), (4, .int (iI f))] [] h1 (fun rv h' => rv = some (.int (iI V)) ∧ Kp STH h h') := by
          intro n
          induction n with
          | zero =>
            intro f hn hV
            refine wp_iload dX11_within__48 rfl ?_
            refine wp_iload_n dX11_within__50 rfl ?_
            refine wp_icmpgt 125 dX11_within__51 (by decide) (by unfold InR; omega) (by unfold InR; omega) (fun c51 => ?_) (fun c51 => ?_)
            · refine wp_iconst dX11_within__125 ?_
              exact wp_iret dX11_within__126 rfl (⟨vi (by rw [hV]; rfl), kp⟩)
            · exact absurd c51 (by omega)
          | succ n iho =>
            intro f hn hV
            refine wp_iload dX11_within__48 rfl ?_
            refine wp_iload_n dX11_within__50 rfl ?_
            refine wp_icmpgt 125 dX11_within__51 (by decide) (by unfold InR; omega) (by unfold InR; omega) (fun c51 => ?_) (fun c51 => ?_)
            · exact absurd c51 (by omega)
            · refine wp_iload_n dX11_within__54 rfl ?_
              refine wp_iload dX11_within__55 rfl ?_
              refine wp_iadd dX11_within__57 ?_
              refine wp_aload_n dX11_within__58 rfl ?_
              refine wp_getI dX11_within__59 flX11_272 rfl rfl ?_
              rw [e24]
              refine wp_iremp dX11_within__62 (by omega) (by omega) (by unfold InR; omega) (by unfold InR; omega) ?_
              have qb := arnd_b (P := P) (p := p + f) (by omega)
              rw [show (p + f) % P = arnd P (p + f) from arnd_mod (by omega) (by omega)]
              rw [woF] at hV
              generalize arnd P (p + f) = q at *
              refine wp_istore dX11_within__63 (by decide) ?_
              refine wp_iconst dX11_within__65 ?_
              refine wp_istore dX11_within__66 (by decide) ?_
              have Li : ∀ (n2 : Nat) (k : Nat), (k + n2 = L.length) → (∀ j : Nat, j < k → L[j]? = some q → ¬ (f < sp ∨ γ q = 0)) → WP X mX11_within_ 60 68 [(0, .ref (adr X 47)), (1, .int (iI p)), (2, .int (iI sp)), (3, .int (iI w)), (4, .int (iI f)), (5, .int (iI q)), (6, .int (iI (k : Int)))] [] h1 (fun rv h' => rv = some (.int (iI V)) ∧ Kp STH h h') := by
                intro n2
                induction n2 with
                | zero =>
                  intro k hk hno
                  refine wp_iload dX11_within__68 rfl ?_
                  refine wp_aload_n dX11_within__70 rfl ?_
                  refine wp_getI dX11_within__71 flX11_317 rfl rfl ?_
                  rw [st1.1]
                  refine wp_icmpge 119 dX11_within__74 (by decide) (by unfold InR; omega) (by unfold InR; omega) (fun c74 => ?_) (fun c74 => ?_)
                  · rw [if_neg (fun z => by
                      obtain ⟨j, hj⟩ := List.getElem?_of_mem ((stLs_mem (c := stb γ P) (n := P.toNat) (p := 0)).mpr ⟨qb.1, by omega, z.1⟩)
                      rw [← hL] at hj
                      exact hno j (by have := (List.getElem?_eq_some_iff.mp hj).1; omega) hj z.2)] at hV
                    refine wp_iinc dX11_within__119 rfl (by decide) ?_
                    refine wp_goto 48 dX11_within__122 (by decide) ?_
                    refine wp_loc [(0, .ref (adr X 47)), (1, .int (iI p)), (2, .int (iI sp)), (3, .int (iI w)), (4, .int (iI (f + 1)))] ⟨rfl, rfl, rfl, rfl, rfl, trivial⟩ ?_
                    exact iho (f + 1) (by omega) hV
                  · exact absurd c74 (by omega)
                | succ n2 ihi =>
                  intro k hk hno
                  refine wp_iload dX11_within__68 rfl ?_
                  refine wp_aload_n dX11_within__70 rfl ?_
                  refine wp_getI dX11_within__71 flX11_317 rfl rfl ?_
                  rw [st1.1]
                  refine wp_icmpge 119 dX11_within__74 (by decide) (by unfold InR; omega) (by unfold InR; omega) (fun c74 => ?_) (fun c74 => ?_)
                  · exact absurd c74 (by omega)
                  · refine wp_aload_n dX11_within__77 rfl ?_
                    refine wp_getC dX11_within__78 flX11_59 rfl rfl ?_
                    refine wp_iload dX11_within__81 rfl ?_
                    obtain ⟨q9, hq9⟩ : ∃ q9, L[k]? = some q9 := ⟨_, List.getElem?_eq_getElem (by omega)⟩
                    have s9 := st1.2 k q9 hq9
                    refine wp_iald (n := 48) dX11_within__83 rfl (by omega) (by omega) ?_
                    rw [show ((k : Int)).toNat = k by omega, s9.1]
                    have pq := stLs_pos (by rw [← hL]; exact hq9)
                    refine wp_iload dX11_within__84 rfl ?_
                    refine wp_icmpne 113 dX11_within__86 (by decide) (by unfold InR; omega) (by unfold InR; omega) (fun c86 => ?_) (fun c86 => ?_)
                    · refine wp_iinc dX11_within__113 rfl (by decide) ?_
                      refine wp_goto 68 dX11_within__116 (by decide) ?_
                      refine wp_loc [(0, .ref (adr X 47)), (1, .int (iI p)), (2, .int (iI sp)), (3, .int (iI w)), (4, .int (iI f)), (5, .int (iI q)), (6, .int (iI ((k + 1 : Nat) : Int)))] ⟨rfl, rfl, rfl, rfl, rfl, rfl, rfl, trivial⟩ ?_
                      exact ihi (k + 1) (by omega) (fun j hj hjq => by
                        by_cases e : j = k
                        · subst e
                          rw [hq9] at hjq
                          have hjq := Option.some.inj hjq
                          exact absurd hjq c86
                        · exact hno j (by omega) hjq)
                    · refine wp_iload dX11_within__89 rfl ?_
                      refine wp_iload_n dX11_within__91 rfl ?_
                      refine wp_icmplt 105 dX11_within__92 (by decide) (by unfold InR; omega) (by unfold InR; omega) (fun c92 => ?_) (fun c92 => ?_)
                      · refine wp_aload_n dX11_within__105 rfl ?_
                        refine wp_iload dX11_within__106 rfl ?_
                        refine wp_iload_n dX11_within__108 rfl ?_
                        refine wp_callVp dX11_within__109 mlX11_329 mvX11_standOf (S_X11_standOf (q := q9) st1 (by omega) (by rw [show ((k : Int)).toNat = k by omega]; exact hq9) (by omega) (by omega)) rfl rfl (by decide) (by decide) rfl rfl rfl (Nat.le_of_ble_eq_true rfl) ?_
                        exact wp_iret dX11_within__112 rfl (by
                subst c86
                rw [if_pos ⟨pq.2.2, Or.inl c92⟩] at hV
                exact ⟨vi hV.symm, kp⟩)
                      · refine wp_aload_n dX11_within__95 rfl ?_
                        refine wp_getC dX11_within__96 flX11_62 rfl rfl ?_
                        refine wp_iload dX11_within__99 rfl ?_
                        skip
                        refine wp_iald (n := 48) dX11_within__101 rfl (by omega) (by omega) ?_
                        rw [show ((k : Int)).toNat = k by omega, s9.2.1]
                        have pR : InR (plc γ P q9 1) := plc_R hγb (by omega) (by omega)
                        refine wp_ifne 113 dX11_within__102 (by decide) pR (fun c102 => ?_) (fun c102 => ?_)
                        · refine wp_iinc dX11_within__113 rfl (by decide) ?_
                          refine wp_goto 68 dX11_within__116 (by decide) ?_
                          refine wp_loc [(0, .ref (adr X 47)), (1, .int (iI p)), (2, .int (iI sp)), (3, .int (iI w)), (4, .int (iI f)), (5, .int (iI q)), (6, .int (iI ((k + 1 : Nat) : Int)))] ⟨rfl, rfl, rfl, rfl, rfl, rfl, rfl, trivial⟩ ?_
                          exact ihi (k + 1) (by omega) (fun j hj hjq => by
                            by_cases e : j = k
                            · subst e
                              rw [hq9] at hjq
                              have hjq := Option.some.inj hjq
                              intro z
                              rw [← hjq] at z
                              rcases z with z | z
                              · omega
                              · exact c102 (plc_z.mpr z)
                            · exact hno j (by omega) hjq)
                        · refine wp_aload_n dX11_within__105 rfl ?_
                          refine wp_iload dX11_within__106 rfl ?_
                          refine wp_iload_n dX11_within__108 rfl ?_
                          refine wp_callVp dX11_within__109 mlX11_329 mvX11_standOf (S_X11_standOf (q := q9) st1 (by omega) (by rw [show ((k : Int)).toNat = k by omega]; exact hq9) (by omega) (by omega)) rfl rfl (by decide) (by decide) rfl rfl rfl (Nat.le_of_ble_eq_true rfl) ?_
                          exact wp_iret dX11_within__112 rfl (by
                subst c86
                rw [if_pos ⟨pq.2.2, Or.inr (plc_z.mp c102)⟩] at hV
                exact ⟨vi hV.symm, kp⟩)
              refine wp_loc [(0, .ref (adr X 47)), (1, .int (iI p)), (2, .int (iI sp)), (3, .int (iI w)), (4, .int (iI f)), (5, .int (iI q)), (6, .int (iI ((0 : Nat) : Int)))] ⟨rfl, rfl, rfl, rfl, rfl, rfl, rfl, trivial⟩ ?_
              exact Li L.length 0 (by omega) (fun j hj => absurd hj (Nat.not_lt_zero j))
        refine wp_loc [(0, .ref (adr X 47)), (1, .int (iI p)), (2, .int (iI sp)), (3, .int (iI w)), (4, .int (iI 0))] ⟨rfl, rfl, rfl, rfl, rfl, trivial⟩ ?_
        exact Lo (sp + 1).toNat 0 (by omega) hV0
      · refine wp_iconst dX11_within__39 ?_
        exact wp_iret dX11_within__40 rfl (⟨vi (by rw [hV0, if_neg (by omega)]), k0⟩)

theorem S_ref_within {X : Cx} {h : Hp} {σ : Sg} (am : AM h σ) (o : SOK σ) {p sp w : Int} (hp : InR p) (hsp : InR sp) (hw : InR w) : Spec X mX11_within_ 60 [.ref (adr X 47), .int (iI p), .int (iI sp), .int (iI w)] h (fun rv h' => rv = some (.int (iI (qWithin σ p sp w))) ∧ AM h' σ ∧ sameC h h') := by
  have em := am.gm
  have gk := o.2.2.2.1
  refine spec_mono (S_X11_within_ (γ := gapF (sG σ)) (P := gP (sG σ)) (V := qWithin σ p sp w) ?_ (by rw [em]; rfl) (by rw [em]; rfl) hp hsp hw rfl) (fun r h' q => ⟨q.1, am.km (STH.km q.2), (STH.km q.2).C⟩)
  by_cases z : gP (sG σ) = 0
  · exact Or.inl z
  · exact Or.inr (am.b2 o (by have := gk.b; omega))

set_option maxRecDepth 20000 in
theorem S_X11_turningsOf {X : Cx} {h : Hp} {v V : Int} (g : GB2 (GM h)) (hv : InR v) (hV0 : V = cntF (eqF (gapF (GM h)) v) (gP (GM h)).toNat 0 0) : Spec X mX11_turningsOf 4 [.ref (adr X 47), .int (iI v)] h (fun rv h' => rv = some (.int (iI V)) ∧ h' = h) := by
  have g1 := g.1
  have e4 : gP (GM h) = hI h 47 24 := rfl
  refine spec_wp (Nat.le_of_ble_eq_true rfl) (by decide +kernel) ?_
  refine wp_loc [(0, .ref (adr X 47)), (1, .int (iI v))] ⟨rfl, rfl, trivial⟩ ?_
  have L : ∀ (n : Nat) (p c : Int), (p + n = gP (GM h) ∧ 0 ≤ p ∧ 0 ≤ c ∧ c ≤ p) → (V = cntF (eqF (gapF (GM h)) v) n p c) → WP X mX11_turningsOf 4 4 [(0, .ref (adr X 47)), (1, .int (iI v)), (2, .int (iI c)), (3, .int (iI p))] [] h (fun rv h' => rv = some (.int (iI V)) ∧ h' = h) := by
    intro n
    induction n with
    | zero =>
      intro p c hn hV
      refine wp_iload_n dX11_turningsOf_4 rfl ?_
      refine wp_aload_n dX11_turningsOf_5 rfl ?_
      refine wp_getI dX11_turningsOf_6 flX11_272 rfl rfl ?_
      refine wp_icmpge 35 dX11_turningsOf_9 (by decide) (by unfold InR; omega) (by unfold InR; omega) (fun c9 => ?_) (fun c9 => ?_)
      · refine wp_iload_n dX11_turningsOf_35 rfl ?_
        exact wp_iret dX11_turningsOf_36 rfl (⟨vi (by rw [hV]; rfl), rfl⟩)
      · exact absurd c9 (by omega)
    | succ n ih =>
      intro p c hn hV
      refine wp_iload_n dX11_turningsOf_4 rfl ?_
      refine wp_aload_n dX11_turningsOf_5 rfl ?_
      refine wp_getI dX11_turningsOf_6 flX11_272 rfl rfl ?_
      refine wp_icmpge 35 dX11_turningsOf_9 (by decide) (by unfold InR; omega) (by unfold InR; omega) (fun c9 => ?_) (fun c9 => ?_)
      · exact absurd c9 (by omega)
      · refine wp_iload_n dX11_turningsOf_12 rfl ?_
        refine wp_aload_n dX11_turningsOf_13 rfl ?_
        refine wp_iload_n dX11_turningsOf_14 rfl ?_
        refine wp_callVp dX11_turningsOf_15 mlX11_310 mvX11_gapOf (S_X11_gapOf (p := p) g (by omega)) rfl rfl (by decide) (by decide) rfl rfl rfl (Nat.le_of_ble_eq_true rfl) ?_
        refine wp_iload_n dX11_turningsOf_18 rfl ?_
        refine wp_icmpne 26 dX11_turningsOf_19 (by decide) (by have := gap_b2 g p; unfold InR; omega) hv (fun c19 => ?_) (fun c19 => ?_)
        · refine wp_iconst dX11_turningsOf_26 ?_
          refine wp_iadd dX11_turningsOf_27 ?_
          refine wp_istore_n dX11_turningsOf_28 (by decide) ?_
          refine wp_iinc dX11_turningsOf_29 rfl (by decide) ?_
          refine wp_goto 4 dX11_turningsOf_32 (by decide) ?_
          refine wp_loc [(0, .ref (adr X 47)), (1, .int (iI v)), (2, .int (iI _)), (3, .int (iI (p + 1)))] ⟨rfl, rfl, rfl, rfl, trivial⟩ ?_
          exact ih (p + 1) _ (by omega) (hV.trans (by rw [cntF]; rw [if_neg (by unfold eqF; rw [beq_iff_eq]; exact c19), Int.add_zero]))
        · refine wp_iconst dX11_turningsOf_22 ?_
          refine wp_goto 27 dX11_turningsOf_23 (by decide) ?_
          refine wp_iadd dX11_turningsOf_27 ?_
          refine wp_istore_n dX11_turningsOf_28 (by decide) ?_
          refine wp_iinc dX11_turningsOf_29 rfl (by decide) ?_
          refine wp_goto 4 dX11_turningsOf_32 (by decide) ?_
          refine wp_loc [(0, .ref (adr X 47)), (1, .int (iI v)), (2, .int (iI _)), (3, .int (iI (p + 1)))] ⟨rfl, rfl, rfl, rfl, trivial⟩ ?_
          exact ih (p + 1) _ (by omega) (hV.trans (by rw [cntF]; rw [if_pos (by unfold eqF; rw [beq_iff_eq]; exact c19)]))
  refine wp_iconst dX11_turningsOf_0 ?_
  refine wp_istore_n dX11_turningsOf_1 (by decide) ?_
  refine wp_iconst dX11_turningsOf_2 ?_
  refine wp_istore_n dX11_turningsOf_3 (by decide) ?_
  refine wp_loc [(0, .ref (adr X 47)), (1, .int (iI v)), (2, .int (iI 0)), (3, .int (iI 0))] ⟨rfl, rfl, rfl, rfl, trivial⟩ ?_
  exact L (gP (GM h)).toNat 0 0 (by omega) hV0

set_option maxRecDepth 20000 in
theorem S_X11_serves {X : Cx} {h : Hp} {σ : Sg} (am : AM h σ) (o : SOK σ) {w : Int} (hw : InR w) : Spec X mX11_serves 60 [.ref (adr X 47), .int (iI w)] h (fun rv h' => rv = some (.int (iI (qServes σ w))) ∧ AM h' σ ∧ sameC h h') := by
  refine spec_wp (Nat.le_of_ble_eq_true rfl) (by decide +kernel) ?_
  refine wp_loc [(0, .ref (adr X 47)), (1, .int (iI w))] ⟨rfl, rfl, trivial⟩ ?_
  refine wp_aload_n dX11_serves_0 rfl ?_
  refine wp_iconst dX11_serves_1 ?_
  refine wp_putI dX11_serves_2 plX11_95 rfl rfl ?_
  have k0 : KM h (sI h 47 0 0) := KM.sI (by unfold SMx; omega)
  have am := am.km k0
  generalize sI h 47 0 0 = h0 at *
  have gk := o.2.2.2.1
  have gb := gk.b
  have gkb := gk.2.1
  have e4 : hI h0 47 24 = gP (sG σ) := am.2.2.2.2.1.1
  have e5 : hI h0 47 26 = gA (sG σ) := am.2.2.2.2.1.2.1
  have e6 : hI h0 47 27 = gK (sG σ) := am.2.2.2.2.1.2.2.1
  have em : GM h0 = gE (sG σ) := am.gm
  have ep : gP (GM h0) = gP (sG σ) := e4
  obtain ⟨V, hV0⟩ : ∃ V : Int, V = qServes σ w := ⟨_, rfl⟩
  rw [← hV0]
  unfold qServes at hV0
  refine wp_aload_n dX11_serves_5 rfl ?_
  refine wp_getI dX11_serves_6 flX11_272 rfl rfl ?_
  refine wp_ifeq 22 dX11_serves_9 (by decide) (by first | assumption | (unfold InR; omega)) (fun c9 => ?_) (fun c9 => ?_)
  · refine wp_ldcw (z := -1000000) dX11_serves_22 kcX11_313 ?_
    exact wp_iret dX11_serves_25 rfl (⟨vi (by rw [hV0, if_pos (by omega)]), am, k0.C⟩)
  · refine wp_iload_n dX11_serves_12 rfl ?_
    refine wp_i2lI dX11_serves_13 (by first | assumption | (unfold InR; omega)) ?_
    refine wp_lconst (v := 0) dX11_serves_14 rfl ?_
    refine wp_lconst (v := 1) dX11_serves_15 rfl ?_
    refine wp_callSp dX11_serves_16 mlX11_219 msX11_isIn (S_X11_isIn (a := w) (b := 0) (c := 1) (by first | (exact InR.L (by assumption)) | (unfold InL; omega)) (by unfold InL; omega) (by unfold InL; omega)) rfl rfl (by decide) (by decide) (Nat.le_of_ble_eq_true rfl) ?_
    refine wp_ifneb 26 dX11_serves_19 (by decide) (fun c19 => ?_) (fun c19 => ?_)
    · refine wp_aload_n dX11_serves_26 rfl ?_
      refine wp_iconst dX11_serves_27 ?_
      refine wp_callVp dX11_serves_28 mlX11_310 mvX11_gapOf (S_X11_gapOf (am.b2 o (by omega)) (by omega)) rfl rfl (by decide) (by decide) rfl rfl rfl (Nat.le_of_ble_eq_true rfl) ?_
      rw [em]
      rw [show gapF (gE (sG σ)) 0 = gapF (sG σ) 0 from rfl]
      refine wp_istore_n dX11_serves_31 (by decide) ?_
      refine wp_iconst dX11_serves_32 ?_
      refine wp_istore_n dX11_serves_33 (by decide) ?_
      have L : ∀ (n : Nat) (p f : Int), (p + n = gP (sG σ) ∧ 1 ≤ p) → (-396 ≤ f ∧ f ≤ 396) → (V = sel2 w (svF (gapF (sG σ)) (gP (sG σ)) n p f (cntF (eqF (gapF (sG σ)) f) (gP (sG σ)).toNat 0 0))) → WP X mX11_serves 60 34 [(0, .ref (adr X 47)), (1, .int (iI w)), (2, .int (iI f)), (3, .int (iI p))] [] h0 (fun rv h' => rv = some (.int (iI V)) ∧ AM h' σ ∧ sameC h h') := by
        intro n
        induction n with
        | zero =>
          intro p f hn hf hV
          refine wp_iload_n dX11_serves_34 rfl ?_
          refine wp_aload_n dX11_serves_35 rfl ?_
          refine wp_getI dX11_serves_36 flX11_272 rfl rfl ?_
          refine wp_icmpge 124 dX11_serves_39 (by decide) (by first | assumption | (unfold InR; omega)) (by first | assumption | (unfold InR; omega)) (fun c39 => ?_) (fun c39 => ?_)
          · refine wp_iload_n dX11_serves_124 rfl ?_
            refine wp_ifne 132 dX11_serves_125 (by decide) (by first | assumption | (unfold InR; omega)) (fun c125 => ?_) (fun c125 => ?_)
            · refine wp_aload_n dX11_serves_132 rfl ?_
              refine wp_iload_n dX11_serves_133 rfl ?_
              refine wp_callVp dX11_serves_134 mlX11_378 mvX11_turningsOf (S_X11_turningsOf (v := f) (V := (cntF (eqF (gapF (sG σ)) f) (gP (sG σ)).toNat 0 0)) (am.b2 o (by omega)) (by unfold InR; omega) (by rw [em]; rfl)) rfl rfl (by decide) (by decide) rfl rfl rfl (Nat.le_of_ble_eq_true rfl) ?_
              exact wp_iret dX11_serves_137 rfl (⟨vi (by rw [hV]; show _ = sel2 w (f, _); unfold sel2; rw [if_neg c125]), am, k0.C⟩)
            · refine wp_iload_n dX11_serves_128 rfl ?_
              refine wp_goto 137 dX11_serves_129 (by decide) ?_
              exact wp_iret dX11_serves_137 rfl (⟨vi (by rw [hV]; show _ = sel2 w (f, _); unfold sel2; rw [if_pos c125]), am, k0.C⟩)
          · exact absurd c39 (by omega)
        | succ n ih =>
          intro p f hn hf hV
          refine wp_iload_n dX11_serves_34 rfl ?_
          refine wp_aload_n dX11_serves_35 rfl ?_
          refine wp_getI dX11_serves_36 flX11_272 rfl rfl ?_
          refine wp_icmpge 124 dX11_serves_39 (by decide) (by first | assumption | (unfold InR; omega)) (by first | assumption | (unfold InR; omega)) (fun c39 => ?_) (fun c39 => ?_)
          · exact absurd c39 (by omega)
          · refine wp_aload_n dX11_serves_42 rfl ?_
            refine wp_iload_n dX11_serves_43 rfl ?_
            refine wp_callVp dX11_serves_44 mlX11_310 mvX11_gapOf (S_X11_gapOf (am.b2 o (by omega)) (by omega)) rfl rfl (by decide) (by decide) rfl rfl rfl (Nat.le_of_ble_eq_true rfl) ?_
            rw [em]
            rw [show gapF (gE (sG σ)) p = gapF (sG σ) p from rfl]
            have vb := gapF_b gk p
            have ub := iabs_b (n := 396) vb
            have uf := iabs_b (n := 396) hf
            have cb1 := cntF_b (eqF (gapF (sG σ)) (gapF (sG σ) p)) (gP (sG σ)).toNat 0 0
            have cb2 := cntF_b (eqF (gapF (sG σ)) f) (gP (sG σ)).toNat 0 0
            rw [svF] at hV
            refine wp_istore dX11_serves_47 (by decide) ?_
            refine wp_aload_n dX11_serves_49 rfl ?_
            refine wp_iload dX11_serves_50 rfl ?_
            refine wp_callVp dX11_serves_52 mlX11_378 mvX11_turningsOf (S_X11_turningsOf (v := (gapF (sG σ) p)) (V := (cntF (eqF (gapF (sG σ)) (gapF (sG σ) p)) (gP (sG σ)).toNat 0 0)) (am.b2 o (by omega)) (by unfold InR; omega) (by rw [em]; rfl)) rfl rfl (by decide) (by decide) rfl rfl rfl (Nat.le_of_ble_eq_true rfl) ?_
            refine wp_aload_n dX11_serves_55 rfl ?_
            refine wp_iload_n dX11_serves_56 rfl ?_
            refine wp_callVp dX11_serves_57 mlX11_378 mvX11_turningsOf (S_X11_turningsOf (v := f) (V := (cntF (eqF (gapF (sG σ)) f) (gP (sG σ)).toNat 0 0)) (am.b2 o (by omega)) (by unfold InR; omega) (by rw [em]; rfl)) rfl rfl (by decide) (by decide) rfl rfl rfl (Nat.le_of_ble_eq_true rfl) ?_
            refine wp_isub dX11_serves_60 ?_
            refine wp_istore dX11_serves_61 (by decide) ?_
            have K100 : ∀ z : Int, (z = 1 ∧ nearB (gapF (sG σ) p) f = true ∨ z = 0 ∧ ¬ nearB (gapF (sG σ) p) f = true) → WP X mX11_serves 60 100 [(0, .ref (adr X 47)), (1, .int (iI w)), (2, .int (iI f)), (3, .int (iI p)), (4, .int (iI (gapF (sG σ) p))), (5, .int (iI ((cntF (eqF (gapF (sG σ)) (gapF (sG σ) p)) (gP (sG σ)).toNat 0 0) - (cntF (eqF (gapF (sG σ)) f) (gP (sG σ)).toNat 0 0)))), (6, .int (iI z))] [] h0 (fun rv h' => rv = some (.int (iI V)) ∧ AM h' σ ∧ sameC h h') := by
              intro z hz
              refine wp_iload dX11_serves_100 rfl ?_
              refine wp_ifgt 115 dX11_serves_102 (by decide) (by unfold InR; omega) (fun c102 => ?_) (fun c102 => ?_)
              · refine wp_iload dX11_serves_115 rfl ?_
                refine wp_istore_n dX11_serves_117 (by decide) ?_
                refine wp_iinc dX11_serves_118 rfl (by decide) ?_
                refine wp_goto 34 dX11_serves_121 (by decide) ?_
                rw [if_pos (by omega)] at hV
                refine wp_loc [(0, .ref (adr X 47)), (1, .int (iI w)), (2, .int (iI (gapF (sG σ) p))), (3, .int (iI (p + 1)))] ⟨rfl, rfl, rfl, rfl, trivial⟩ ?_
                exact ih (p + 1) _ (by omega) (by omega) hV
              · refine wp_iload dX11_serves_105 rfl ?_
                refine wp_ifne 118 dX11_serves_107 (by decide) (by unfold InR; omega) (fun c107 => ?_) (fun c107 => ?_)
                · refine wp_iinc dX11_serves_118 rfl (by decide) ?_
                  refine wp_goto 34 dX11_serves_121 (by decide) ?_
                  rw [if_neg (fun q => by
                      rcases q with q | q
                      · omega
                      · omega)] at hV
                  refine wp_loc [(0, .ref (adr X 47)), (1, .int (iI w)), (2, .int (iI f)), (3, .int (iI (p + 1)))] ⟨rfl, rfl, rfl, rfl, trivial⟩ ?_
                  exact ih (p + 1) f (by omega) hf hV
                · refine wp_iload dX11_serves_110 rfl ?_
                  refine wp_ifeq 118 dX11_serves_112 (by decide) (by unfold InR; omega) (fun c112 => ?_) (fun c112 => ?_)
                  · refine wp_iinc dX11_serves_118 rfl (by decide) ?_
                    refine wp_goto 34 dX11_serves_121 (by decide) ?_
                    rw [if_neg (fun q => by
                        rcases q with q | q
                        · omega
                        · rcases hz with z1 | z1
                          · omega
                          · exact z1.2 q.2)] at hV
                    refine wp_loc [(0, .ref (adr X 47)), (1, .int (iI w)), (2, .int (iI f)), (3, .int (iI (p + 1)))] ⟨rfl, rfl, rfl, rfl, trivial⟩ ?_
                    exact ih (p + 1) f (by omega) hf hV
                  · refine wp_iload dX11_serves_115 rfl ?_
                    refine wp_istore_n dX11_serves_117 (by decide) ?_
                    refine wp_iinc dX11_serves_118 rfl (by decide) ?_
                    refine wp_goto 34 dX11_serves_121 (by decide) ?_
                    rw [if_pos (Or.inr ⟨by omega, by
                        rcases hz with q | q
                        · exact q.2
                        · omega⟩)] at hV
                    refine wp_loc [(0, .ref (adr X 47)), (1, .int (iI w)), (2, .int (iI (gapF (sG σ) p))), (3, .int (iI (p + 1)))] ⟨rfl, rfl, rfl, rfl, trivial⟩ ?_
                    exact ih (p + 1) _ (by omega) (by omega) hV
            refine wp_iload dX11_serves_63 rfl ?_
            refine wp_callSp dX11_serves_65 mlX11_305 msJ9_abs_0f7a4 (S_J9_abs_0f7a4 (by unfold InR; omega)) rfl rfl (by decide) (by decide) (Nat.le_of_ble_eq_true rfl) ?_
            refine wp_iload_n dX11_serves_68 rfl ?_
            refine wp_callSp dX11_serves_69 mlX11_305 msJ9_abs_0f7a4 (S_J9_abs_0f7a4 (by unfold InR; omega)) rfl rfl (by decide) (by decide) (Nat.le_of_ble_eq_true rfl) ?_
            refine wp_icmplt 93 dX11_serves_72 (by decide) (by unfold InR; omega) (by unfold InR; omega) (fun c72 => ?_) (fun c72 => ?_)
            · refine wp_iconst dX11_serves_93 ?_
              refine wp_goto 98 dX11_serves_94 (by decide) ?_
              refine wp_istore dX11_serves_98 (by decide) ?_
              refine wp_loc [(0, .ref (adr X 47)), (1, .int (iI w)), (2, .int (iI f)), (3, .int (iI p)), (4, .int (iI (gapF (sG σ) p))), (5, .int (iI ((cntF (eqF (gapF (sG σ)) (gapF (sG σ) p)) (gP (sG σ)).toNat 0 0) - (cntF (eqF (gapF (sG σ)) f) (gP (sG σ)).toNat 0 0)))), (6, .int (iI 1))] ⟨rfl, rfl, rfl, rfl, rfl, rfl, rfl, trivial⟩ ?_
              exact K100 _ (Or.inl ⟨rfl, by unfold nearB; rw [Bool.or_eq_true, Bool.and_eq_true, decide_eq_true_iff, decide_eq_true_iff, decide_eq_true_iff]; omega⟩)
            · refine wp_iload dX11_serves_75 rfl ?_
              refine wp_callSp dX11_serves_77 mlX11_305 msJ9_abs_0f7a4 (S_J9_abs_0f7a4 (by unfold InR; omega)) rfl rfl (by decide) (by decide) (Nat.le_of_ble_eq_true rfl) ?_
              refine wp_iload_n dX11_serves_80 rfl ?_
              refine wp_callSp dX11_serves_81 mlX11_305 msJ9_abs_0f7a4 (S_J9_abs_0f7a4 (by unfold InR; omega)) rfl rfl (by decide) (by decide) (Nat.le_of_ble_eq_true rfl) ?_
              refine wp_icmpne 97 dX11_serves_84 (by decide) (by unfold InR; omega) (by unfold InR; omega) (fun c84 => ?_) (fun c84 => ?_)
              · refine wp_iconst dX11_serves_97 ?_
                refine wp_istore dX11_serves_98 (by decide) ?_
                refine wp_loc [(0, .ref (adr X 47)), (1, .int (iI w)), (2, .int (iI f)), (3, .int (iI p)), (4, .int (iI (gapF (sG σ) p))), (5, .int (iI ((cntF (eqF (gapF (sG σ)) (gapF (sG σ) p)) (gP (sG σ)).toNat 0 0) - (cntF (eqF (gapF (sG σ)) f) (gP (sG σ)).toNat 0 0)))), (6, .int (iI 0))] ⟨rfl, rfl, rfl, rfl, rfl, rfl, rfl, trivial⟩ ?_
                exact K100 _ (Or.inr ⟨rfl, by unfold nearB; rw [Bool.or_eq_true, Bool.and_eq_true, decide_eq_true_iff, decide_eq_true_iff, decide_eq_true_iff]; omega⟩)
              · refine wp_iload dX11_serves_87 rfl ?_
                refine wp_iload_n dX11_serves_89 rfl ?_
                refine wp_icmpge 97 dX11_serves_90 (by decide) (by unfold InR; omega) (by unfold InR; omega) (fun c90 => ?_) (fun c90 => ?_)
                · refine wp_iconst dX11_serves_97 ?_
                  refine wp_istore dX11_serves_98 (by decide) ?_
                  refine wp_loc [(0, .ref (adr X 47)), (1, .int (iI w)), (2, .int (iI f)), (3, .int (iI p)), (4, .int (iI (gapF (sG σ) p))), (5, .int (iI ((cntF (eqF (gapF (sG σ)) (gapF (sG σ) p)) (gP (sG σ)).toNat 0 0) - (cntF (eqF (gapF (sG σ)) f) (gP (sG σ)).toNat 0 0)))), (6, .int (iI 0))] ⟨rfl, rfl, rfl, rfl, rfl, rfl, rfl, trivial⟩ ?_
                  exact K100 _ (Or.inr ⟨rfl, by unfold nearB; rw [Bool.or_eq_true, Bool.and_eq_true, decide_eq_true_iff, decide_eq_true_iff, decide_eq_true_iff]; omega⟩)
                · refine wp_iconst dX11_serves_93 ?_
                  refine wp_goto 98 dX11_serves_94 (by decide) ?_
                  refine wp_istore dX11_serves_98 (by decide) ?_
                  refine wp_loc [(0, .ref (adr X 47)), (1, .int (iI w)), (2, .int (iI f)), (3, .int (iI p)), (4, .int (iI (gapF (sG σ) p))), (5, .int (iI ((cntF (eqF (gapF (sG σ)) (gapF (sG σ) p)) (gP (sG σ)).toNat 0 0) - (cntF (eqF (gapF (sG σ)) f) (gP (sG σ)).toNat 0 0)))), (6, .int (iI 1))] ⟨rfl, rfl, rfl, rfl, rfl, rfl, rfl, trivial⟩ ?_
                  exact K100 _ (Or.inl ⟨rfl, by unfold nearB; rw [Bool.or_eq_true, Bool.and_eq_true, decide_eq_true_iff, decide_eq_true_iff, decide_eq_true_iff]; omega⟩)
      have g0 := gk.1
      have vb0 := gapF_b gk 0
      refine wp_loc [(0, .ref (adr X 47)), (1, .int (iI w)), (2, .int (iI (gapF (sG σ) 0))), (3, .int (iI 1))] ⟨rfl, rfl, rfl, rfl, trivial⟩ ?_
      refine L (gP (sG σ) - 1).toNat 1 _ (by omega) vb0 ?_
      rw [hV0, if_neg (by omega)]
      obtain ⟨k, hk⟩ : ∃ k, (gP (sG σ)).toNat = k + 1 := ⟨(gP (sG σ)).toNat - 1, by omega⟩
      have hc1 : 1 ≤ cntF (eqF (gapF (sG σ)) (gapF (sG σ) 0)) (gP (sG σ)).toNat 0 0 := by
        rw [hk, cntF, if_pos (by unfold eqF; rw [beq_iff_eq])]
        exact (cntF_b _ k _ _).1
      have e2 : svF (gapF (sG σ)) (gP (sG σ)) (gP (sG σ)).toNat 0 0 0 = svF (gapF (sG σ)) (gP (sG σ)) ((gP (sG σ)) - 1).toNat 1 (gapF (sG σ) 0) (cntF (eqF (gapF (sG σ)) (gapF (sG σ) 0)) (gP (sG σ)).toNat 0 0) := by
        rw [show ((gP (sG σ)) - 1).toNat = k by omega]
        conv => lhs; arg 3; rw [hk]
        rw [svF, if_pos (Or.inl (by omega))]
        rfl
      rw [e2]
    · refine wp_ldcw (z := -1000000) dX11_serves_22 kcX11_313 ?_
      exact wp_iret dX11_serves_25 rfl (⟨vi (by rw [hV0, if_pos (by omega)]), am, k0.C⟩)

