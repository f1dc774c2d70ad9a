/-! a WISH is reckoned: its code -/
def ex1 (ρ : Int → Int) (w : Int) (st : List Int) : List Int := if 0 ≤ w then psh w st else rck ρ (-w) st
/-- where to go on behind UNLESS at i -/
def tgt (c : List Int) (i : Int) : Int := if i + 1 < c.length then c.getD (i + 1).toNat 0 else c.length
def wrun (ρ : Int → Int) (c : List Int) : Nat → Int → List Int → Int
  | 0, _, _ => 0
  | n + 1, i, st => if 0 ≤ i ∧ i < c.length then (if c.getD i.toNat 0 = -59 then st.headD 0 else if c.getD i.toNat 0 = -63 then wrun ρ c n (if st.headD 0 = 0 then tgt c i else i + 2) st.tail else wrun ρ c n (i + 1) (ex1 ρ (c.getD i.toNat 0) st)) else 0
theorem AllR.ex {st : List Int} (a : AllR st) {ρ : Int → Int} (hρ : ∀ x, InR (ρ x)) {w : Int} (hw : InR w) : AllR (ex1 ρ w st) := by
  unfold ex1
  split
  · exact a.ps hw
  · exact a.rk hρ _
theorem ltr_R {g p t s n : Int} (hg : InR g) (hp : InR p) (ht : InR t) (hs : InR s) (hn : InR n) (x : Int) : InR (ltr g p t s n x) := by
  unfold ltr
  repeat' split
  all_goals assumption
def WR (x : Int) : Prop := -1000000 ≤ x ∧ x ≤ 1000000
theorem WR.R {x : Int} (h : WR x) : InR x := by unfold WR at h; unfold InR; omega
def CDc (h : Hp) (a : Nat) (c : List Int) : Prop := hI h a 1 = c.length ∧ ∀ i : Nat, i < c.length → hI h (a + 1) i = c.getD i 0
theorem CDc.kp {h h' : Hp} {a : Nat} {c : List Int} (k : CDc h a c) (q : Kp (SK a) h h') : CDc h' a c := ⟨by rw [q.1 a 1 (by unfold SK; omega)]; exact k.1, fun i hi => by rw [q.1 (a + 1) i (by unfold SK; omega)]; exact k.2 i hi⟩
theorem tgt_R {c : List Int} (hw : ∀ i, WR (c.getD i 0)) (hc : c.length ≤ 160) (i : Int) : InR (tgt c i) := by
  unfold tgt
  split
  · exact (hw _).R
  · unfold InR; omega

set_option maxRecDepth 20000 in
theorem S_X8_worth {X : Cx} {h : Hp} {a : Nat} {c : List Int} {g p t s n0 V : Int} (hW : isW a) (cd0 : CDc h a c) (hc : c.length ≤ 160) (hw : ∀ i, WR (c.getD i 0)) (hρ : ∀ x, InR (ltr g p t s n0 x)) (hV0 : V = wrun (ltr g p t s n0) c c.length 0 []) : Spec X mX8_worth 5 [.ref (adr X a), .int (iI g), .int (iI p), .int (iI t), .int (iI s), .int (iI n0)] h (fun rv h' => rv = some (.int (iI V)) ∧ Kp (SK a) h h') := by
  refine spec_wp (Nat.le_of_ble_eq_true rfl) (by decide +kernel) ?_
  refine wp_loc [(0, .ref (adr X a)), (1, .int (iI g)), (2, .int (iI p)), (3, .int (iI t)), (4, .int (iI s)), (5, .int (iI n0))] ⟨rfl, rfl, rfl, rfl, rfl, rfl, trivial⟩ ?_
  have L : ∀ (n : Nat) (i z : Int) (st : List Int) (h1 : Hp), (z + n = c.length ∧ 0 ≤ z) → (InR i) → (STK h1 a st) → (AllR st) → (Kp (SK a) h h1) → (V = wrun (ltr g p t s n0) c n i st) → WP X mX8_worth 5 11 [(0, .ref (adr X a)), (1, .int (iI g)), (2, .int (iI p)), (3, .int (iI t)), (4, .int (iI s)), (5, .int (iI n0)), (6, .int (iI i)), (7, .int (iI z))] [] h1 (fun rv h' => rv = some (.int (iI V)) ∧ Kp (SK a) h h') := by
    intro n
    induction n with
    | zero =>
      intro i z st h1 hz hi sk ar kp hV
      have cd := cd0.kp kp
      have hi2 := hi
      unfold InR at hi2
      refine wp_iload dX8_worth_11 rfl ?_
      refine wp_aload_n dX8_worth_13 rfl ?_
      refine wp_getI dX8_worth_14 flX8_15 (ws0 hW) rfl ?_
      rw [cd.1]
      refine wp_icmpge 145 dX8_worth_17 (by decide) (by unfold InR; omega) (by unfold InR; omega) (fun c17 => ?_) (fun c17 => ?_)
      · refine wp_iconst dX8_worth_145 ?_
        exact wp_iret dX8_worth_146 rfl (⟨vi hV.symm, kp⟩)
      · exact absurd c17 (by omega)
    | succ n ih =>
      intro i z st h1 hz hi sk ar kp hV
      have cd := cd0.kp kp
      have hi2 := hi
      unfold InR at hi2
      have K139 : ∀ (i2 : Int) (st2 : List Int) (h2 : Hp), InR i2 → STK h2 a st2 → AllR st2 → Kp (SK a) h h2 → V = wrun (ltr g p t s n0) c n i2 st2 → WP X mX8_worth 5 139 [(0, .ref (adr X a)), (1, .int (iI g)), (2, .int (iI p)), (3, .int (iI t)), (4, .int (iI s)), (5, .int (iI n0)), (6, .int (iI i2)), (7, .int (iI z))] [] h2 (fun rv h' => rv = some (.int (iI V)) ∧ Kp (SK a) h h') := by
        intro i2 st2 h2 hi2 sk2 ar2 kp2 hV2
        refine wp_iinc dX8_worth_139 rfl (by decide) ?_
        refine wp_goto 11 dX8_worth_142 (by decide) ?_
        refine wp_loc [(0, .ref (adr X a)), (1, .int (iI g)), (2, .int (iI p)), (3, .int (iI t)), (4, .int (iI s)), (5, .int (iI n0)), (6, .int (iI i2)), (7, .int (iI (z + 1)))] ⟨rfl, rfl, rfl, rfl, rfl, rfl, rfl, rfl, trivial⟩ ?_
        exact ih i2 (z + 1) st2 h2 (by omega) hi2 sk2 ar2 kp2 hV2
      rw [wrun] at hV
      refine wp_iload dX8_worth_11 rfl ?_
      refine wp_aload_n dX8_worth_13 rfl ?_
      refine wp_getI dX8_worth_14 flX8_15 (ws0 hW) rfl ?_
      rw [cd.1]
      refine wp_icmpge 145 dX8_worth_17 (by decide) (by unfold InR; omega) (by unfold InR; omega) (fun c17 => ?_) (fun c17 => ?_)
      · exact absurd c17 (by omega)
      · refine wp_iload dX8_worth_20 rfl ?_
        refine wp_iflt 145 dX8_worth_22 (by decide) hi (fun c22 => ?_) (fun c22 => ?_)
        · refine wp_iconst dX8_worth_145 ?_
          exact wp_iret dX8_worth_146 rfl (by
    rw [if_neg (by omega)] at hV
    exact ⟨vi hV.symm, kp⟩)
        · refine wp_iload dX8_worth_25 rfl ?_
          refine wp_aload_n dX8_worth_27 rfl ?_
          refine wp_getI dX8_worth_28 flX8_15 (ws0 hW) rfl ?_
          rw [cd.1]
          refine wp_icmpge 145 dX8_worth_31 (by decide) hi (by unfold InR; omega) (fun c31 => ?_) (fun c31 => ?_)
          · refine wp_iconst dX8_worth_145 ?_
            exact wp_iret dX8_worth_146 rfl (by
    rw [if_neg (by omega)] at hV
    exact ⟨vi hV.symm, kp⟩)
          · rw [if_pos (by omega)] at hV
            have hw1 := hw i.toNat
            refine wp_aload_n dX8_worth_34 rfl ?_
            refine wp_getC dX8_worth_35 flX8_9 (ws0 hW) rfl ?_
            refine wp_iload dX8_worth_38 rfl ?_
            refine wp_iald (n := 160) dX8_worth_40 (ws1 hW) (by omega) (by omega) ?_
            rw [cd.2 i.toNat (by omega)]
            refine wp_istore dX8_worth_41 (by decide) ?_
            refine wp_iinc dX8_worth_43 rfl (by decide) ?_
            refine wp_iload dX8_worth_46 rfl ?_
            refine wp_bipush dX8_worth_48 rfl ?_
            refine wp_icmpne 58 dX8_worth_50 (by decide) (hw _).R (by unfold InR; omega) (fun c50 => ?_) (fun c50 => ?_)
            · rw [if_neg c50] at hV
              refine wp_iload dX8_worth_58 rfl ?_
              refine wp_bipush dX8_worth_60 rfl ?_
              refine wp_icmpne 111 dX8_worth_62 (by decide) (hw _).R (by unfold InR; omega) (fun c62 => ?_) (fun c62 => ?_)
              · rw [if_neg c62] at hV
                unfold ex1 at hV
                refine wp_iload dX8_worth_111 rfl ?_
                refine wp_iflt 125 dX8_worth_113 (by decide) (hw _).R (fun c113 => ?_) (fun c113 => ?_)
                · rw [if_neg (by omega)] at hV
                  refine wp_aload_n dX8_worth_125 rfl ?_
                  refine wp_iload dX8_worth_126 rfl ?_
                  refine wp_ineg dX8_worth_128 ?_
                  refine wp_iload_n dX8_worth_129 rfl ?_
                  refine wp_iload_n dX8_worth_130 rfl ?_
                  refine wp_iload_n dX8_worth_131 rfl ?_
                  refine wp_iload dX8_worth_132 rfl ?_
                  refine wp_iload dX8_worth_134 rfl ?_
                  refine wp_callV dX8_worth_136 mlX8_48 mvX8_reckon (S_X8_reckon hW sk (by unfold WR at hw1; unfold InR; omega) ar) rfl rfl (by decide) (by decide) (ws0 hW) rfl rfl (Nat.le_of_ble_eq_true rfl) ?_
                  rintro rv h2 ⟨rfl, sk1, kp1⟩
                  refine wp_loc [(0, .ref (adr X a)), (1, .int (iI g)), (2, .int (iI p)), (3, .int (iI t)), (4, .int (iI s)), (5, .int (iI n0)), (6, .int (iI (i + 1))), (7, .int (iI z))] ⟨rfl, rfl, rfl, rfl, rfl, rfl, rfl, rfl, trivial⟩ ?_
                  exact K139 (i + 1) _ _ (by unfold InR; omega) sk1 (ar.rk hρ _) (kp.tr kp1) hV
                · rw [if_pos (by omega)] at hV
                  refine wp_aload_n dX8_worth_116 rfl ?_
                  refine wp_iload dX8_worth_117 rfl ?_
                  refine wp_callV dX8_worth_119 mlX8_44 mvX8_push (S_X8_push hW sk) rfl rfl (by decide) (by decide) (ws0 hW) rfl rfl (Nat.le_of_ble_eq_true rfl) ?_
                  rintro rv h2 ⟨rfl, sk1, kp1⟩
                  refine wp_goto 139 dX8_worth_122 (by decide) ?_
                  refine wp_loc [(0, .ref (adr X a)), (1, .int (iI g)), (2, .int (iI p)), (3, .int (iI t)), (4, .int (iI s)), (5, .int (iI n0)), (6, .int (iI (i + 1))), (7, .int (iI z))] ⟨rfl, rfl, rfl, rfl, rfl, rfl, rfl, rfl, trivial⟩ ?_
                  exact K139 (i + 1) _ _ (by unfold InR; omega) sk1 (ar.ps (hw _).R) (kp.tr kp1) hV
              · rw [if_pos c62] at hV
                refine wp_iload dX8_worth_65 rfl ?_
                refine wp_aload_n dX8_worth_67 rfl ?_
                refine wp_getI dX8_worth_68 flX8_15 (ws0 hW) rfl ?_
                rw [cd.1]
                refine wp_icmpge 84 dX8_worth_71 (by decide) (by unfold InR; omega) (by unfold InR; omega) (fun c71 => ?_) (fun c71 => ?_)
                · refine wp_aload_n dX8_worth_84 rfl ?_
                  refine wp_getI dX8_worth_85 flX8_15 (ws0 hW) rfl ?_
                  rw [cd.1]
                  rw [show ((c.length : Nat) : Int) = tgt c i by unfold tgt; rw [if_neg (by omega)]]
                  refine wp_istore dX8_worth_88 (by decide) ?_
                  refine wp_aload_n dX8_worth_90 rfl ?_
                  refine wp_callV dX8_worth_91 mlX8_40 mvX8_pop (S_X8_pop hW sk) rfl rfl (by decide) (by decide) (ws0 hW) rfl rfl (Nat.le_of_ble_eq_true rfl) ?_
                  rintro rv h2 ⟨rfl, sk1, kp1⟩
                  refine wp_ifne 102 dX8_worth_94 (by decide) ar.hd (fun c94 => ?_) (fun c94 => ?_)
                  · refine wp_iload dX8_worth_102 rfl ?_
                    refine wp_iconst dX8_worth_104 ?_
                    refine wp_iadd dX8_worth_105 ?_
                    rw [if_neg c94] at hV
                    refine wp_istore dX8_worth_106 (by decide) ?_
                    refine wp_goto 139 dX8_worth_108 (by decide) ?_
                    refine wp_loc [(0, .ref (adr X a)), (1, .int (iI g)), (2, .int (iI p)), (3, .int (iI t)), (4, .int (iI s)), (5, .int (iI n0)), (6, .int (iI (i + 1 + 1))), (7, .int (iI z))] ⟨rfl, rfl, rfl, rfl, rfl, rfl, rfl, rfl, trivial⟩ ?_
                    exact K139 (i + 1 + 1) _ _ (by unfold InR; omega) sk1 ar.tl (kp.tr kp1) (by rw [show i + 1 + 1 = i + 2 by omega]; exact hV)
                  · refine wp_iload dX8_worth_97 rfl ?_
                    refine wp_goto 106 dX8_worth_99 (by decide) ?_
                    rw [if_pos c94] at hV
                    refine wp_istore dX8_worth_106 (by decide) ?_
                    refine wp_goto 139 dX8_worth_108 (by decide) ?_
                    refine wp_loc [(0, .ref (adr X a)), (1, .int (iI g)), (2, .int (iI p)), (3, .int (iI t)), (4, .int (iI s)), (5, .int (iI n0)), (6, .int (iI (tgt c i))), (7, .int (iI z))] ⟨rfl, rfl, rfl, rfl, rfl, rfl, rfl, rfl, trivial⟩ ?_
                    exact K139 (tgt c i) _ _ (tgt_R hw hc i) sk1 ar.tl (kp.tr kp1) hV
                · refine wp_aload_n dX8_worth_74 rfl ?_
                  refine wp_getC dX8_worth_75 flX8_9 (ws0 hW) rfl ?_
                  refine wp_iload dX8_worth_78 rfl ?_
                  refine wp_iald (n := 160) dX8_worth_80 (ws1 hW) (by omega) (by omega) ?_
                  rw [cd.2 (i + 1).toNat (by omega)]
                  refine wp_goto 88 dX8_worth_81 (by decide) ?_
                  rw [show c.getD (i + 1).toNat 0 = tgt c i by unfold tgt; rw [if_pos (by omega)]]
                  refine wp_istore dX8_worth_88 (by decide) ?_
                  refine wp_aload_n dX8_worth_90 rfl ?_
                  refine wp_callV dX8_worth_91 mlX8_40 mvX8_pop (S_X8_pop hW sk) rfl rfl (by decide) (by decide) (ws0 hW) rfl rfl (Nat.le_of_ble_eq_true rfl) ?_
                  rintro rv h2 ⟨rfl, sk1, kp1⟩
                  refine wp_ifne 102 dX8_worth_94 (by decide) ar.hd (fun c94 => ?_) (fun c94 => ?_)
                  · refine wp_iload dX8_worth_102 rfl ?_
                    refine wp_iconst dX8_worth_104 ?_
                    refine wp_iadd dX8_worth_105 ?_
                    rw [if_neg c94] at hV
                    refine wp_istore dX8_worth_106 (by decide) ?_
                    refine wp_goto 139 dX8_worth_108 (by decide) ?_
                    refine wp_loc [(0, .ref (adr X a)), (1, .int (iI g)), (2, .int (iI p)), (3, .int (iI t)), (4, .int (iI s)), (5, .int (iI n0)), (6, .int (iI (i + 1 + 1))), (7, .int (iI z))] ⟨rfl, rfl, rfl, rfl, rfl, rfl, rfl, rfl, trivial⟩ ?_
                    exact K139 (i + 1 + 1) _ _ (by unfold InR; omega) sk1 ar.tl (kp.tr kp1) (by rw [show i + 1 + 1 = i + 2 by omega]; exact hV)
                  · refine wp_iload dX8_worth_97 rfl ?_
                    refine wp_goto 106 dX8_worth_99 (by decide) ?_
                    rw [if_pos c94] at hV
                    refine wp_istore dX8_worth_106 (by decide) ?_
                    refine wp_goto 139 dX8_worth_108 (by decide) ?_
                    refine wp_loc [(0, .ref (adr X a)), (1, .int (iI g)), (2, .int (iI p)), (3, .int (iI t)), (4, .int (iI s)), (5, .int (iI n0)), (6, .int (iI (tgt c i))), (7, .int (iI z))] ⟨rfl, rfl, rfl, rfl, rfl, rfl, rfl, rfl, trivial⟩ ?_
                    exact K139 (tgt c i) _ _ (tgt_R hw hc i) sk1 ar.tl (kp.tr kp1) hV
            · refine wp_aload_n dX8_worth_53 rfl ?_
              refine wp_callV dX8_worth_54 mlX8_40 mvX8_pop (S_X8_pop hW sk) rfl rfl (by decide) (by decide) (ws0 hW) rfl rfl (Nat.le_of_ble_eq_true rfl) ?_
              rintro rv h2 ⟨rfl, sk1, kp1⟩
              exact wp_iret dX8_worth_57 rfl (by
    rw [if_pos c50] at hV
    exact ⟨vi hV.symm, kp.tr kp1⟩)
  refine wp_aload_n dX8_worth_0 rfl ?_
  refine wp_iconst dX8_worth_1 ?_
  refine wp_putI dX8_worth_2 plX8_22 (ws0 hW) rfl ?_
  refine wp_iconst dX8_worth_5 ?_
  refine wp_istore dX8_worth_6 (by decide) ?_
  refine wp_iconst dX8_worth_8 ?_
  refine wp_istore dX8_worth_9 (by decide) ?_
  refine wp_loc [(0, .ref (adr X a)), (1, .int (iI g)), (2, .int (iI p)), (3, .int (iI t)), (4, .int (iI s)), (5, .int (iI n0)), (6, .int (iI 0)), (7, .int (iI 0))] ⟨rfl, rfl, rfl, rfl, rfl, rfl, rfl, rfl, trivial⟩ ?_
  exact L c.length 0 0 [] _ (by omega) inR_0 ⟨hI_same, by decide, fun i hi => absurd hi (Nat.not_lt_zero i)⟩ (fun x hx => by cases hx) (Kp.sI (Or.inl ⟨rfl, rfl⟩)) hV0

set_option maxRecDepth 20000 in
theorem S_X8_take {X : Cx} {h : Hp} {a : Nat} {c : List Int} (hW : isW a) (cw : CW h c) (hc : c.length ≤ 160) : Spec X mX8_take 2 [.ref (adr X a), .ref (adr X 6), .int (iI ((c.length : Nat) : Int))] h (fun rv h' => rv = none ∧ CDc h' a c ∧ Kp (fun c2 j => (c2 = a ∧ j = 1) ∨ c2 = a + 1) h h') := by
  have ga : 8 ≤ a ∧ a ≤ 17 := by unfold isW at hW; omega
  refine spec_wp (Nat.le_of_ble_eq_true rfl) (by decide +kernel) ?_
  refine wp_loc [(0, .ref (adr X a)), (1, .ref (adr X 6)), (2, .int (iI ((c.length : Nat) : Int)))] ⟨rfl, rfl, rfl, trivial⟩ ?_
  refine wp_aload_n dX8_take_0 rfl ?_
  refine wp_iconst dX8_take_1 ?_
  refine wp_iload_n dX8_take_2 rfl ?_
  refine wp_aload_n dX8_take_3 rfl ?_
  refine wp_alen dX8_take_4 (by first | rfl | exact gs1 hG | exact gs2 hG | exact gs3 hG | exact gs4 hG | exact ws1 hW | exact ws2 hW | assumption) (by decide) ?_
  refine wp_aload_n dX8_take_5 rfl ?_
  refine wp_getC dX8_take_6 flX8_9 (ws0 hW) rfl ?_
  refine wp_alen dX8_take_9 (by first | rfl | exact gs1 hG | exact gs2 hG | exact gs3 hG | exact gs4 hG | exact ws1 hW | exact ws2 hW | assumption) (by decide) ?_
  refine wp_callSp dX8_take_10 mlX8_25 msJ9_min_7cf53 (S_J9_min_7cf53 (by unfold InR; omega) (by unfold InR; omega)) rfl rfl (by decide) (by decide) (Nat.le_of_ble_eq_true rfl) ?_
  refine wp_callSp dX8_take_13 mlX8_25 msJ9_min_7cf53 (S_J9_min_7cf53 (by unfold InR; omega) (by unfold InR; omega)) rfl rfl (by decide) (by decide) (Nat.le_of_ble_eq_true rfl) ?_
  refine wp_callSp dX8_take_16 mlX8_31 msJ9_max_7cf53 (S_J9_max_7cf53 (by unfold InR; omega) (by unfold InR; omega)) rfl rfl (by decide) (by decide) (Nat.le_of_ble_eq_true rfl) ?_
  rw [show max (0 : Int) (min ((c.length : Nat) : Int) (min ((160 : Nat) : Int) ((160 : Nat) : Int))) = c.length by omega]
  refine wp_putI dX8_take_19 plX8_15 (ws0 hW) rfl ?_
  refine wp_aload_n dX8_take_22 rfl ?_
  refine wp_iconst dX8_take_23 ?_
  refine wp_aload_n dX8_take_24 rfl ?_
  refine wp_getC dX8_take_25 flX8_9 (ws0 hW) rfl ?_
  refine wp_iconst dX8_take_28 ?_
  refine wp_aload_n dX8_take_29 rfl ?_
  refine wp_getI dX8_take_30 flX8_15 (ws0 hW) rfl ?_
  rw [hI_same]
  refine wp_acopy dX8_take_33 acX8 (n0 := 160) (n1 := 160) rfl (ws1 hW) (by omega) (by omega) (by omega) (by omega) (by omega) (by decide) (Nat.le_of_ble_eq_true rfl) ?_
  exact wp_ret dX8_take_36 rfl (by
  refine ⟨rfl, ⟨?_, fun i hi => ?_⟩, (Kp.sI (Or.inl ⟨rfl, rfl⟩)).tr (Kp.cp (fun j => Or.inr rfl))⟩
  · rw [cpy_I (by omega), hI_same]
  · have q := cpy_in (h := sI h a 1 ((c.length : Nat) : Int)) (a := 6) (s := (0 : Int).toNat) (b := a + 1) (t := (0 : Int).toNat) (n := ((c.length : Nat) : Int).toNat) (j := i) (by omega) (by omega)
    rw [show (0 : Int).toNat + (i - (0 : Int).toNat) = i by omega] at q
    rw [q, hI_sI, if_neg (by omega)]
    exact cw.2 i hi)

