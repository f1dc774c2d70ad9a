/-! the reference: a clause of a GARDEN -/
theorem wp_ldcSw {X : Cx} {M : Mt} {R : Room} {cn sn pc : Nat} {Qf : State → Array Value → List Frame → State → Prop} {lv : List (Nat × Value)} {st : List Value} {h : Hp} {idx : Nat} (z : String × Nat × String × Nat) (hd : decode M.2.1 pc = .ok (.ldc_w idx, 3)) (hz : z ∈ srL) (h1 : z.1 = M.1.cls) (h2 : z.2.1 = idx) (k : WG X M R cn sn Qf (pc + 3) lv (.ref (adr X z.2.2.2) :: st) h) : WG X M R cn sn Qf pc lv st h := by
  intro p e s m args below meth c H locs ls hC hP hS hl
  have hR := hC.2.2.2.2.2.2.2.2.1.2.2.2.2.1 z hz
  rw [h1, h2] at hR
  have k2 := k p e s m args below meth c H locs _ hC hP hS hl
  intro T hT X9
  obtain ⟨t, a1, b1⟩ := k2 T hT X9
  exact ⟨t, X9.ldcStringW hC.1 hC.2.2.2.2.1 (text := z.2.2.1) (a := adr X z.2.2.2) hR.1 hR.2 (g := F0 m pc ls st) rfl (by rw [hC.2.1]; exact hd) t a1, b1⟩

def DM (h : Hp) (q : GS) : Prop := hI h 47 25 = q.1.length ∧ hI h 47 28 = q.2.2.length ∧ hI h 47 29 = b2i (0 < q.1.length) ∧ hI h 47 30 = b2i (q.2.1.isSome = true) ∧ (∀ j : Nat, j < q.1.length → hI h 53 j = q.1.getD j 0) ∧ (∀ j : Nat, j < 5 → hI h 55 j = gIt q j) ∧ ∀ s : Nat, s < q.2.2.length → hI h 57 (2 * s) = (q.2.2.getD s (1, 0)).1 ∧ hI h 57 (2 * s + 1) = (q.2.2.getD s (1, 0)).2
def SGa (c j : Nat) : Prop := (c = 47 ∧ (j = 10 ∨ j = 11 ∨ j = 12 ∨ j = 25 ∨ j = 28 ∨ j = 29 ∨ j = 30)) ∨ c = 53 ∨ c = 55 ∨ c = 57
theorem TXm.ga {h h' : Hp} {t : List Int} {b B : Nat} (x : TXm h t b B) (k : Kp SGa h h') : TXm h' t b B := x.ks k (by unfold SGa; omega)
theorem Kp.gaP {h h' : Hp} (k : Kp SP h h') : Kp SGa h h' := k.mono (fun c j q => by unfold SP at q; unfold SGa; omega)
theorem Kp.gaR {h h' : Hp} (k : Kp SGr h h') : Kp SGa h h' := k.mono (fun c j q => by unfold SGr at q; unfold SGa; omega)
theorem Kp.gaI {a Bs n : Nat} (ha : a = 55 ∨ a = 57) {h h' : Hp} (k : Kp (Sit a Bs n) h h') : Kp SGa h h' := k.mono (fun c j q => by unfold Sit at q; unfold SGa; omega)
theorem DM.kp {h h' : Hp} {q : GS} (d : DM h q) (k : Kp SP h h') : DM h' q := by
  obtain ⟨d1, d2, d3, d4, d5, d6, d7⟩ := d
  refine ⟨by rw [k.1 47 25 (by unfold SP; omega)]; exact d1, by rw [k.1 47 28 (by unfold SP; omega)]; exact d2, by rw [k.1 47 29 (by unfold SP; omega)]; exact d3, by rw [k.1 47 30 (by unfold SP; omega)]; exact d4, fun j hj => by rw [k.1 53 j (by unfold SP; omega)]; exact d5 j hj, fun j hj => by rw [k.1 55 j (by unfold SP; omega)]; exact d6 j hj, fun s hs => ?_⟩
  rw [k.1 57 _ (by unfold SP; omega), k.1 57 _ (by unfold SP; omega)]
  exact d7 s hs
def gcG (q : GS) (r : Nat ⊕ (Nat × List Int)) : Nat ⊕ (Nat × GS) := match r with
  | .inl e => .inl e
  | .inr (k, hs) => .inr (k, hs, q.2)
def gcH (q : GS) (r : Nat ⊕ (Nat × (Int → Int))) : Nat ⊕ (Nat × GS) := match r with
  | .inl e => .inl e
  | .inr (k, v) => .inr (k, q.1, some v, q.2.2)
def gcC (q : GS) (r : Nat ⊕ (Nat × (Int → Int))) : Nat ⊕ (Nat × GS) := match r with
  | .inl e => .inl e
  | .inr (k, v) => .inr (k, q.1, q.2.1, q.2.2 ++ [(v 0, v 1)])
theorem gc_n {q : GS} (h : ¬ 0 < q.1.length) : q.1 = [] := List.length_eq_zero_iff.mp (by omega)
theorem gc_s {q : GS} (h : ¬ q.2.1.isSome = true) : q.2.1 = none := by
  cases e : q.2.1 with
  | none => rfl
  | some v => rw [e] at h; exact absurd rfl h
theorem gc_1 {t : List Int} {q : GS} {i : Nat} (h : lk t i = 103) (h2 : ¬ 0 < q.1.length) : gcF t q i = gcG q (grF t 24 [] (sk t i + 1)) := by
  unfold gcF
  rw [if_pos ⟨h, gc_n h2⟩]
  rfl
theorem gc_2 {t : List Int} {q : GS} {i : Nat} (h : lk t i = 116) (h2 : ¬ q.2.1.isSome = true) : gcF t q i = gcH q (itF t tbL tLo tHi 6 0 (fun j => if j = 0 then 1 else 0) (sk t i + 1)) := by
  unfold gcF
  rw [if_neg (by omega), if_pos ⟨h, gc_s h2⟩]
  rfl
theorem gc_3 {t : List Int} {q : GS} {i : Nat} (h : lk t i = 99) (h2 : q.2.2.length < 4) : gcF t q i = gcC q (itF t cdLt cLo cHi 3 0 (fun _ => 1) (sk t i + 1)) := by
  unfold gcF
  rw [if_neg (by omega), if_neg (by omega), if_pos ⟨h, h2⟩]
  rfl
theorem gc_0 {t : List Int} {q : GS} {i : Nat} (h1 : ¬ (lk t i = 103 ∧ ¬ 0 < q.1.length)) (h2 : ¬ (lk t i = 116 ∧ ¬ q.2.1.isSome = true)) (h3 : ¬ (lk t i = 99 ∧ q.2.2.length < 4)) : gcF t q i = .inl (sk t i) := by
  unfold gcF
  rw [if_neg (fun z => h1 ⟨z.1, by rw [z.2]; exact Nat.lt_irrefl 0⟩), if_neg (fun z => h2 ⟨z.1, by rw [z.2]; exact Bool.false_ne_true⟩), if_neg h3]
theorem gIt_n {q : GS} (h : ¬ q.2.1.isSome = true) : gIt q = fun j => if j = 0 then 1 else 0 := by unfold gIt; rw [gc_s h]
theorem ge4 {t : List Int} (k : TOK t) {i e : Nat} {hs : List Int} (hi : i ≤ t.length) (h : grF t 24 [] i = .inr (e, hs)) : 4 ≤ hs.length := by
  have w := grF_b k 24 [] i hi rfl (fun _ h => by cases h)
  rw [h] at w
  exact w.2.2.1.1

set_option maxRecDepth 20000 in
theorem S_X11_readClause {X : Cx} {h : Hp} {t : List Int} {b B i : Nat} {q : GS} (tx : TXm h t b B) (tk : TOK t) (hi : hI h 47 10 = i) (hl : i ≤ t.length) (hf : hI h 47 11 = -1) (dm : DM h q) (hq : GSOK q) : Spec X mX11_readClause 6 [.ref (adr X 47)] h (fun rv h' => rv = none ∧ (∀ e, gcF t q i = .inl e → hI h' 47 11 = (e : Int)) ∧ (∀ k q2, gcF t q i = .inr (k, q2) → hI h' 47 11 = -1 ∧ hI h' 47 10 = (k : Int) ∧ DM h' q2) ∧ Kp SGa h h') := by
  have t160 := tk.1
  have lb := lk_b tk hl
  have sb := sk_b t hl
  obtain ⟨d1, d2, d3, d4, d5, d6, d7⟩ := dm
  have q4 := hq.2.2.2.1
  obtain ⟨V, hV⟩ : ∃ V, V = gcF t q i := ⟨_, rfl⟩
  rw [← hV]
  refine spec_wp (Nat.le_of_ble_eq_true rfl) (by decide +kernel) ?_
  refine wp_loc [(0, .ref (adr X 47))] ⟨rfl, trivial⟩ ?_
  refine wp_aload_n dX11_readClause_0 rfl ?_
  refine wp_callV dX11_readClause_1 mlX11_141 mvX11_look (S_X11_look tx tk hi hl) rfl rfl (by omega) (by decide) rfl rfl rfl (Nat.le_of_ble_eq_true rfl) ?_
  rintro rv h1 ⟨rfl, rfl⟩
  refine wp_istore_n dX11_readClause_4 (by decide) ?_
  refine wp_iload_n dX11_readClause_5 rfl ?_
  refine wp_bipush dX11_readClause_6 rfl ?_
  refine wp_icmpne 18 dX11_readClause_8 (by decide) (by unfold InR; omega) (by unfold InR; omega) (fun c8 => ?_) (fun c8 => ?_)
  · refine wp_iload_n dX11_readClause_18 rfl ?_
    refine wp_bipush dX11_readClause_19 rfl ?_
    refine wp_icmpne 31 dX11_readClause_21 (by decide) (by unfold InR; omega) (by unfold InR; omega) (fun c21 => ?_) (fun c21 => ?_)
    · refine wp_iload_n dX11_readClause_31 rfl ?_
      refine wp_bipush dX11_readClause_32 rfl ?_
      refine wp_icmpne 49 dX11_readClause_34 (by decide) (by unfold InR; omega) (by unfold InR; omega) (fun c34 => ?_) (fun c34 => ?_)
      · refine wp_iconst dX11_readClause_49 ?_
        refine wp_istore_n dX11_readClause_50 (by decide) ?_
        refine wp_iload_n dX11_readClause_51 rfl ?_
        refine wp_ifne 61 dX11_readClause_52 (by decide) (by unfold InR; omega) (fun c52 => ?_) (fun c52 => ?_)
        · exact absurd rfl c52
        · refine wp_aload_n dX11_readClause_55 rfl ?_
          refine wp_callV dX11_readClause_56 mlX11_137 mvX11_fails (S_X11_fails (by rw [hI_10 (by decide)]; exact hf)) rfl rfl (by omega) (by decide) rfl rfl rfl (Nat.le_of_ble_eq_true rfl) ?_
          rintro rv h9 ⟨rfl, rfl⟩
          rw [hI_same]
          refine wp_pop dX11_readClause_59 rfl ?_
          exact wp_ret dX11_readClause_60 rfl (by
  rw [gc_0 (fun z => by first | omega | exact z.2 c15) (fun z => by first | omega | exact z.2 c28) (fun z => by omega)] at hV
  subst hV
  exact ⟨rfl, fun e9 q9 => (by cases q9; exact hI_same), fun k9 x9 e9 => (by cases e9), (kp10.gaP).tr kp11.gaP⟩)
      · refine wp_aload_n dX11_readClause_37 rfl ?_
        refine wp_getI dX11_readClause_38 flX11_244 rfl rfl ?_
        rw [hI_10 (by decide), d2]
        refine wp_iconst dX11_readClause_41 ?_
        refine wp_icmpge 49 dX11_readClause_42 (by decide) (by unfold InR; omega) (by unfold InR; omega) (fun c42 => ?_) (fun c42 => ?_)
        · refine wp_iconst dX11_readClause_49 ?_
          refine wp_istore_n dX11_readClause_50 (by decide) ?_
          refine wp_iload_n dX11_readClause_51 rfl ?_
          refine wp_ifne 61 dX11_readClause_52 (by decide) (by unfold InR; omega) (fun c52 => ?_) (fun c52 => ?_)
          · exact absurd rfl c52
          · refine wp_aload_n dX11_readClause_55 rfl ?_
            refine wp_callV dX11_readClause_56 mlX11_137 mvX11_fails (S_X11_fails (by rw [hI_10 (by decide)]; exact hf)) rfl rfl (by omega) (by decide) rfl rfl rfl (Nat.le_of_ble_eq_true rfl) ?_
            rintro rv h9 ⟨rfl, rfl⟩
            rw [hI_same]
            refine wp_pop dX11_readClause_59 rfl ?_
            exact wp_ret dX11_readClause_60 rfl (by
  rw [gc_0 (fun z => by first | omega | exact z.2 c15) (fun z => by first | omega | exact z.2 c28) (fun z => by omega)] at hV
  subst hV
  exact ⟨rfl, fun e9 q9 => (by cases q9; exact hI_same), fun k9 x9 e9 => (by cases e9), (kp10.gaP).tr kp11.gaP⟩)
        · refine wp_iconst dX11_readClause_45 ?_
          refine wp_goto 50 dX11_readClause_46 (by decide) ?_
          refine wp_istore_n dX11_readClause_50 (by decide) ?_
          refine wp_iload_n dX11_readClause_51 rfl ?_
          refine wp_ifne 61 dX11_readClause_52 (by decide) (by unfold InR; omega) (fun c52 => ?_) (fun c52 => ?_)
          · have lin := lk_in tk hl (by omega : lk t i ≠ -1)
            refine wp_aload_n dX11_readClause_61 rfl ?_
            refine wp_dup dX11_readClause_62 rfl ?_
            refine wp_getI dX11_readClause_63 flX11_122 rfl rfl ?_
            rw [hI_same]
            refine wp_iconst dX11_readClause_66 ?_
            refine wp_iadd dX11_readClause_67 ?_
            refine wp_putI dX11_readClause_68 plX11_122 rfl rfl ?_
            rw [sI_sI, show ((sk t i : Nat) : Int) + 1 = ((sk t i + 1 : Nat) : Int) by omega]
            refine wp_iload_n dX11_readClause_71 rfl ?_
            refine wp_bipush dX11_readClause_72 rfl ?_
            refine wp_icmpne 82 dX11_readClause_74 (by decide) (by unfold InR; omega) (by unfold InR; omega) (fun c74 => ?_) (fun c74 => ?_)
            · refine wp_iload_n dX11_readClause_82 rfl ?_
              refine wp_bipush dX11_readClause_83 rfl ?_
              refine wp_icmpne 106 dX11_readClause_85 (by decide) (by unfold InR; omega) (by unfold InR; omega) (fun c85 => ?_) (fun c85 => ?_)
              · refine wp_aload_n dX11_readClause_106 rfl ?_
                refine wp_getC dX11_readClause_107 flX11_52 rfl rfl ?_
                refine wp_iconst dX11_readClause_110 ?_
                refine wp_aload_n dX11_readClause_111 rfl ?_
                refine wp_getI dX11_readClause_112 flX11_244 rfl rfl ?_
                rw [hI_10 (by decide), d2]
                refine wp_imul dX11_readClause_115 ?_
                refine wp_iconst dX11_readClause_116 ?_
                refine wp_iast (n := 8) dX11_readClause_117 rfl (by omega) (by omega) ?_
                refine wp_aload_n dX11_readClause_118 rfl ?_
                refine wp_getC dX11_readClause_119 flX11_52 rfl rfl ?_
                refine wp_iconst dX11_readClause_122 ?_
                refine wp_aload_n dX11_readClause_123 rfl ?_
                refine wp_getI dX11_readClause_124 flX11_244 rfl rfl ?_
                rw [hI_sI, if_neg (by omega), hI_10 (by decide), d2]
                refine wp_imul dX11_readClause_127 ?_
                refine wp_iconst dX11_readClause_128 ?_
                refine wp_iadd dX11_readClause_129 ?_
                refine wp_iconst dX11_readClause_130 ?_
                refine wp_iast (n := 8) dX11_readClause_131 rfl (by omega) (by omega) ?_
                refine wp_aload_n dX11_readClause_132 rfl ?_
                refine wp_dup dX11_readClause_133 rfl ?_
                refine wp_getI dX11_readClause_134 flX11_244 rfl rfl ?_
                rw [hI_sI, if_neg (by omega), hI_sI, if_neg (by omega), hI_10 (by decide), d2]
                refine wp_iconst dX11_readClause_137 ?_
                refine wp_iadd dX11_readClause_138 ?_
                refine wp_putI dX11_readClause_139 plX11_244 rfl rfl ?_
                have n1 : (2 * (q.2.2.length : Int)).toNat = 2 * q.2.2.length := by omega
                have n2 : (2 * (q.2.2.length : Int) + 1).toNat = 2 * q.2.2.length + 1 := by omega
                rw [n1, n2]
                obtain ⟨h4, eh4⟩ : ∃ h4, h4 = sI (sI (sI (sI h 47 10 ((sk t i + 1 : Nat) : Int)) 57 (2 * q.2.2.length) 1) 57 (2 * q.2.2.length + 1) 1) 47 28 ((q.2.2.length : Int) + 1) := ⟨_, rfl⟩
                rw [← eh4]
                have kg4 : Kp SGa h h4 := by rw [eh4]; exact (((kp10.gaP).tr (Kp.sI (by unfold SGa; omega))).tr (Kp.sI (by unfold SGa; omega))).tr (Kp.sI (by unfold SGa; omega))
                have v4 : ∀ j : Nat, j < sln 1 → hI h4 57 (2 * q.2.2.length + j) = (fun _ => (1 : Int)) ((j : Nat) : Int) := fun j hj => by
                  have s2 : sln 1 = 2 := rfl
                  rw [eh4, hI_sI, if_neg (by omega), hI_sI]
                  by_cases ej : j = 1
                  · rw [if_pos ⟨rfl, by omega⟩]
                  · rw [if_neg (fun w => ej (by omega)), hI_sI, if_pos ⟨rfl, by omega⟩]
                refine wp_aload_n dX11_readClause_142 rfl ?_
                refine wp_aload_n dX11_readClause_143 rfl ?_
                refine wp_getC dX11_readClause_144 flX11_52 rfl rfl ?_
                refine wp_iconst dX11_readClause_147 ?_
                refine wp_aload_n dX11_readClause_148 rfl ?_
                refine wp_getI dX11_readClause_149 flX11_244 rfl rfl ?_
                rw [show hI h4 47 28 = (q.2.2.length : Int) + 1 by rw [eh4, hI_same]]
                refine wp_iconst dX11_readClause_152 ?_
                refine wp_isub dX11_readClause_153 ?_
                refine wp_imul dX11_readClause_154 ?_
                rw [show 2 * ((q.2.2.length : Int) + 1 - 1) = ((2 * q.2.2.length : Nat) : Int) by omega]
                refine wp_ldcSw (RX11, 256, "tn", 111) dX11_readClause_155 (by unfold srL; simp) rfl rfl ?_
                refine wp_iconst dX11_readClause_158 ?_
                refine wp_callV dX11_readClause_159 mlX11_252 mvX11_readItems (S_X11_readItems (i0 := sk t i + 1) (s := 1) (a := 57) (Bs := 2 * q.2.2.length) (fl := 0) (lo := cLo) (up := cHi) (v0 := fun _ => 1) (by decide) (Or.inr ⟨rfl, rfl, by omega, rfl, rfl, rfl⟩) (tx.ga kg4) tk (by rw [eh4, hI_sI, if_neg (by omega), hI_sI, if_neg (by omega), hI_sI, if_neg (by omega), hI_same]) (by omega) (by rw [eh4, hI_sI, if_neg (by omega), hI_sI, if_neg (by omega), hI_sI, if_neg (by omega), hI_10 (by decide)]; exact hf) v4) rfl rfl (by omega) (by decide) rfl rfl rfl (Nat.le_of_ble_eq_true rfl) ?_
                rintro rv h2 ⟨rfl, he2, hr2, kp2⟩
                exact wp_ret dX11_readClause_162 rfl (by
  rw [gc_3 c34 (by omega)] at hV
  have kall : Kp SGa h h2 := kg4.tr (kp2.gaI (Or.inr rfl))
  cases hw : itF t cdLt cLo cHi 3 0 (fun _ => 1) (sk t i + 1) with
  | inl e =>
    rw [hw] at hV
    have hV : V = .inl e := hV
    subst hV
    exact ⟨rfl, fun e9 q9 => (by cases q9; exact he2 e hw), fun k9 x9 e9 => (by cases e9), kall⟩
  | inr z =>
    obtain ⟨k, w⟩ := z
    obtain ⟨r1, r2, r3⟩ := hr2 k w hw
    rw [hw] at hV
    have hV : V = .inr (k, q.1, q.2.1, q.2.2 ++ [(w 0, w 1)]) := hV
    subst hV
    refine ⟨rfl, fun e9 q9 => (by cases q9), fun k9 x9 e9 => ?_, kall⟩
    cases e9
    have kk : ∀ c j, ¬ (c = 47 ∧ (j = 10 ∨ j = 11 ∨ j = 12 ∨ j = 28)) → ¬ (c = 57 ∧ 2 * q.2.2.length ≤ j) → hI h2 c j = hI h c j := fun c j n1 n2 => by
      have s2 : sln 1 = 2 := rfl
      rw [kp2.1 c j (by unfold Sit; omega), eh4, hI_sI, if_neg (by omega), hI_sI, if_neg (by omega), hI_sI, if_neg (by omega), hI_sI, if_neg (by omega)]
    refine ⟨r1, r2, by rw [kk _ _ (by omega) (by omega)]; exact d1, by rw [kp2.1 47 28 (by unfold Sit; omega), eh4, hI_same, List.length_append, List.length_singleton]; omega, by rw [kk _ _ (by omega) (by omega)]; exact d3, by rw [kk _ _ (by omega) (by omega)]; exact d4, fun j hj => by rw [kk _ _ (by omega) (by omega)]; exact d5 j hj, fun j hj => by rw [kk _ _ (by omega) (by omega)]; exact d6 j hj, fun s hs => ?_⟩
    have e0 : (q.2.2 ++ [(w 0, w 1)]).length = q.2.2.length + 1 := by rw [List.length_append, List.length_singleton]
    have hs2 : s < q.2.2.length + 1 := e0 ▸ hs
    by_cases es : s = q.2.2.length
    · have e1 : (q.2.2 ++ [(w 0, w 1)]).getD s (1, 0) = (w 0, w 1) := by rw [es, List.getD_eq_getElem?_getD]; simp
      show hI h2 57 (2 * s) = ((q.2.2 ++ [(w 0, w 1)]).getD s (1, 0)).1 ∧ hI h2 57 (2 * s + 1) = ((q.2.2 ++ [(w 0, w 1)]).getD s (1, 0)).2
      rw [e1, es]
      exact ⟨r3 0 (by decide), r3 1 (by decide)⟩
    · have e1 : (q.2.2 ++ [(w 0, w 1)]).getD s (1, 0) = q.2.2.getD s (1, 0) := by rw [List.getD_eq_getElem?_getD, List.getD_eq_getElem?_getD, List.getElem?_append_left (by omega)]
      show hI h2 57 (2 * s) = ((q.2.2 ++ [(w 0, w 1)]).getD s (1, 0)).1 ∧ hI h2 57 (2 * s + 1) = ((q.2.2 ++ [(w 0, w 1)]).getD s (1, 0)).2
      rw [e1, kk _ _ (by omega) (by omega), kk _ _ (by omega) (by omega)]
      exact d7 s (by omega))
              · exact absurd c85 (by omega)
            · exact absurd c74 (by omega)
          · exact absurd c52 (by decide)
    · refine wp_aload_n dX11_readClause_24 rfl ?_
      refine wp_getI dX11_readClause_25 flX11_241 rfl rfl ?_
      rw [hI_10 (by decide), d4]
      refine wp_ifeqb 45 dX11_readClause_28 (by decide) (fun c28 => ?_) (fun c28 => ?_)
      · refine wp_iconst dX11_readClause_45 ?_
        refine wp_goto 50 dX11_readClause_46 (by decide) ?_
        refine wp_istore_n dX11_readClause_50 (by decide) ?_
        refine wp_iload_n dX11_readClause_51 rfl ?_
        refine wp_ifne 61 dX11_readClause_52 (by decide) (by unfold InR; omega) (fun c52 => ?_) (fun c52 => ?_)
        · have lin := lk_in tk hl (by omega : lk t i ≠ -1)
          refine wp_aload_n dX11_readClause_61 rfl ?_
          refine wp_dup dX11_readClause_62 rfl ?_
          refine wp_getI dX11_readClause_63 flX11_122 rfl rfl ?_
          rw [hI_same]
          refine wp_iconst dX11_readClause_66 ?_
          refine wp_iadd dX11_readClause_67 ?_
          refine wp_putI dX11_readClause_68 plX11_122 rfl rfl ?_
          rw [sI_sI, show ((sk t i : Nat) : Int) + 1 = ((sk t i + 1 : Nat) : Int) by omega]
          refine wp_iload_n dX11_readClause_71 rfl ?_
          refine wp_bipush dX11_readClause_72 rfl ?_
          refine wp_icmpne 82 dX11_readClause_74 (by decide) (by unfold InR; omega) (by unfold InR; omega) (fun c74 => ?_) (fun c74 => ?_)
          · refine wp_iload_n dX11_readClause_82 rfl ?_
            refine wp_bipush dX11_readClause_83 rfl ?_
            refine wp_icmpne 106 dX11_readClause_85 (by decide) (by unfold InR; omega) (by unfold InR; omega) (fun c85 => ?_) (fun c85 => ?_)
            · exact absurd c21 c85
            · refine wp_aload_n dX11_readClause_88 rfl ?_
              refine wp_iconst dX11_readClause_89 ?_
              refine wp_putZ dX11_readClause_90 plX11_241 rfl rfl (by omega) ?_
              have kg30 : Kp SGa (sI h 47 10 ((sk t i + 1 : Nat) : Int)) (sI (sI h 47 10 ((sk t i + 1 : Nat) : Int)) 47 30 1) := Kp.sI (by unfold SGa; omega)
              refine wp_aload_n dX11_readClause_93 rfl ?_
              refine wp_aload_n dX11_readClause_94 rfl ?_
              refine wp_getC dX11_readClause_95 flX11_46 rfl rfl ?_
              refine wp_iconst dX11_readClause_98 ?_
              refine wp_ldcS (RX11, 250, "awxyz", 110) dX11_readClause_99 (by unfold srL; simp) rfl rfl ?_
              refine wp_iconst dX11_readClause_101 ?_
              refine wp_callV dX11_readClause_102 mlX11_252 mvX11_readItems (S_X11_readItems (i0 := sk t i + 1) (s := 0) (a := 55) (Bs := 0) (fl := 1) (lo := tLo) (up := tHi) (v0 := fun j => if j = 0 then 1 else 0) (by decide) (Or.inl ⟨rfl, rfl, rfl, rfl, rfl, rfl⟩) ((tx.kp kp10).ks kg30 (by unfold SGa; omega)) tk (by rw [hI_sI, if_neg (by omega), hI_same]) (by omega) (by rw [hI_sI, if_neg (by omega), hI_10 (by decide)]; exact hf) (fun j hj => by rw [hI_sI, if_neg (by omega), hI_sI, if_neg (by omega), Nat.zero_add, d6 j hj, gIt_n c28])) rfl rfl (by omega) (by decide) rfl rfl rfl (Nat.le_of_ble_eq_true rfl) ?_
              rintro rv h2 ⟨rfl, he2, hr2, kp2⟩
              exact wp_ret dX11_readClause_105 rfl (by
  rw [gc_2 c21 c28] at hV
  cases hw : itF t tbL tLo tHi 6 0 (fun j => if j = 0 then 1 else 0) (sk t i + 1) with
  | inl e =>
    rw [hw] at hV
    have hV : V = .inl e := hV
    subst hV
    exact ⟨rfl, fun e9 q9 => (by cases q9; exact he2 e hw), fun k9 x9 e9 => (by cases e9), ((kp10.gaP).tr kg30).tr (kp2.gaI (Or.inl rfl))⟩
  | inr z =>
    obtain ⟨k, w⟩ := z
    obtain ⟨r1, r2, r3⟩ := hr2 k w hw
    rw [hw] at hV
    have hV : V = .inr (k, q.1, some w, q.2.2) := hV
    subst hV
    refine ⟨rfl, fun e9 q9 => (by cases q9), fun k9 x9 e9 => ?_, ((kp10.gaP).tr kg30).tr (kp2.gaI (Or.inl rfl))⟩
    cases e9
    have kk : ∀ c j, ¬ (c = 47 ∧ (j = 10 ∨ j = 11 ∨ j = 12 ∨ j = 30)) → c ≠ 55 → hI h2 c j = hI h c j := fun c j n1 n2 => by rw [kp2.1 c j (by unfold Sit; omega), hI_sI, if_neg (by omega), hI_sI, if_neg (by omega)]
    refine ⟨r1, r2, by rw [kk _ _ (by omega) (by omega)]; exact d1, by rw [kk _ _ (by omega) (by omega)]; exact d2, by rw [kk _ _ (by omega) (by omega)]; exact d3, by rw [kp2.1 47 30 (by unfold Sit; omega), hI_same]; rfl, fun j hj => by rw [kk _ _ (by omega) (by omega)]; exact d5 j hj, fun j hj => by rw [show j = 0 + j by omega]; rw [r3 j hj, Nat.zero_add]; rfl, fun s hs => ?_⟩
    rw [kk _ _ (by omega) (by omega), kk _ _ (by omega) (by omega)]
    exact d7 s hs)
          · exact absurd c74 (by omega)
        · exact absurd c52 (by decide)
      · refine wp_iload_n dX11_readClause_31 rfl ?_
        refine wp_bipush dX11_readClause_32 rfl ?_
        refine wp_icmpne 49 dX11_readClause_34 (by decide) (by unfold InR; omega) (by unfold InR; omega) (fun c34 => ?_) (fun c34 => ?_)
        · refine wp_iconst dX11_readClause_49 ?_
          refine wp_istore_n dX11_readClause_50 (by decide) ?_
          refine wp_iload_n dX11_readClause_51 rfl ?_
          refine wp_ifne 61 dX11_readClause_52 (by decide) (by unfold InR; omega) (fun c52 => ?_) (fun c52 => ?_)
          · exact absurd rfl c52
          · refine wp_aload_n dX11_readClause_55 rfl ?_
            refine wp_callV dX11_readClause_56 mlX11_137 mvX11_fails (S_X11_fails (by rw [hI_10 (by decide)]; exact hf)) rfl rfl (by omega) (by decide) rfl rfl rfl (Nat.le_of_ble_eq_true rfl) ?_
            rintro rv h9 ⟨rfl, rfl⟩
            rw [hI_same]
            refine wp_pop dX11_readClause_59 rfl ?_
            exact wp_ret dX11_readClause_60 rfl (by
  rw [gc_0 (fun z => by first | omega | exact z.2 c15) (fun z => by first | omega | exact z.2 c28) (fun z => by omega)] at hV
  subst hV
  exact ⟨rfl, fun e9 q9 => (by cases q9; exact hI_same), fun k9 x9 e9 => (by cases e9), (kp10.gaP).tr kp11.gaP⟩)
        · exact absurd c34 (by omega)
  · refine wp_aload_n dX11_readClause_11 rfl ?_
    refine wp_getI dX11_readClause_12 flX11_223 rfl rfl ?_
    rw [hI_10 (by decide), d3]
    refine wp_ifeqb 45 dX11_readClause_15 (by decide) (fun c15 => ?_) (fun c15 => ?_)
    · refine wp_iconst dX11_readClause_45 ?_
      refine wp_goto 50 dX11_readClause_46 (by decide) ?_
      refine wp_istore_n dX11_readClause_50 (by decide) ?_
      refine wp_iload_n dX11_readClause_51 rfl ?_
      refine wp_ifne 61 dX11_readClause_52 (by decide) (by unfold InR; omega) (fun c52 => ?_) (fun c52 => ?_)
      · have lin := lk_in tk hl (by omega : lk t i ≠ -1)
        refine wp_aload_n dX11_readClause_61 rfl ?_
        refine wp_dup dX11_readClause_62 rfl ?_
        refine wp_getI dX11_readClause_63 flX11_122 rfl rfl ?_
        rw [hI_same]
        refine wp_iconst dX11_readClause_66 ?_
        refine wp_iadd dX11_readClause_67 ?_
        refine wp_putI dX11_readClause_68 plX11_122 rfl rfl ?_
        rw [sI_sI, show ((sk t i : Nat) : Int) + 1 = ((sk t i + 1 : Nat) : Int) by omega]
        refine wp_iload_n dX11_readClause_71 rfl ?_
        refine wp_bipush dX11_readClause_72 rfl ?_
        refine wp_icmpne 82 dX11_readClause_74 (by decide) (by unfold InR; omega) (by unfold InR; omega) (fun c74 => ?_) (fun c74 => ?_)
        · exact absurd c8 c74
        · refine wp_aload_n dX11_readClause_77 rfl ?_
          refine wp_callV dX11_readClause_78 mlX11_247 mvX11_readGround (S_X11_readGround (i0 := sk t i + 1) (tx.kp kp10) tk hI_same (by omega) (by rw [hI_10 (by decide)]; exact hf) (by rw [hI_10 (by decide), d1]; omega)) rfl rfl (by omega) (by decide) rfl rfl rfl (Nat.le_of_ble_eq_true rfl) ?_
          rintro rv h2 ⟨rfl, he2, hr2, kp2⟩
          exact wp_ret dX11_readClause_81 rfl (by
  rw [gc_1 c8 c15] at hV
  cases hw : grF t 24 [] (sk t i + 1) with
  | inl e =>
    rw [hw] at hV
    have hV : V = .inl e := hV
    subst hV
    exact ⟨rfl, fun e9 q9 => (by cases q9; exact he2 e hw), fun k9 x9 e9 => (by cases e9), (kp10.gaP).tr kp2.gaR⟩
  | inr z =>
    obtain ⟨k, hs⟩ := z
    obtain ⟨r1, r2, r3, r4, r5⟩ := hr2 k hs hw
    have g4 := ge4 tk (by omega) hw
    rw [hw] at hV
    have hV : V = .inr (k, hs, q.2) := hV
    subst hV
    refine ⟨rfl, fun e9 q9 => (by cases q9), fun k9 x9 e9 => ?_, (kp10.gaP).tr kp2.gaR⟩
    cases e9
    refine ⟨r1, r2, r3, by rw [kp2.1 47 28 (by unfold SGr; omega), hI_10 (by decide)]; exact d2, by rw [r4]; exact (b2i_t (show 0 < hs.length by omega)).symm, by rw [kp2.1 47 30 (by unfold SGr; omega), hI_10 (by decide)]; exact d4, r5, fun j hj => by rw [kp2.1 55 j (by unfold SGr; omega), hI_sI, if_neg (by omega)]; exact d6 j hj, fun s hs => ?_⟩
    rw [kp2.1 57 _ (by unfold SGr; omega), kp2.1 57 _ (by unfold SGr; omega), hI_sI, if_neg (by omega), hI_sI, if_neg (by omega)]
    exact d7 s hs)
      · exact absurd c52 (by decide)
    · refine wp_iload_n dX11_readClause_18 rfl ?_
      refine wp_bipush dX11_readClause_19 rfl ?_
      refine wp_icmpne 31 dX11_readClause_21 (by decide) (by unfold InR; omega) (by unfold InR; omega) (fun c21 => ?_) (fun c21 => ?_)
      · refine wp_iload_n dX11_readClause_31 rfl ?_
        refine wp_bipush dX11_readClause_32 rfl ?_
        refine wp_icmpne 49 dX11_readClause_34 (by decide) (by unfold InR; omega) (by unfold InR; omega) (fun c34 => ?_) (fun c34 => ?_)
        · refine wp_iconst dX11_readClause_49 ?_
          refine wp_istore_n dX11_readClause_50 (by decide) ?_
          refine wp_iload_n dX11_readClause_51 rfl ?_
          refine wp_ifne 61 dX11_readClause_52 (by decide) (by unfold InR; omega) (fun c52 => ?_) (fun c52 => ?_)
          · exact absurd rfl c52
          · refine wp_aload_n dX11_readClause_55 rfl ?_
            refine wp_callV dX11_readClause_56 mlX11_137 mvX11_fails (S_X11_fails (by rw [hI_10 (by decide)]; exact hf)) rfl rfl (by omega) (by decide) rfl rfl rfl (Nat.le_of_ble_eq_true rfl) ?_
            rintro rv h9 ⟨rfl, rfl⟩
            rw [hI_same]
            refine wp_pop dX11_readClause_59 rfl ?_
            exact wp_ret dX11_readClause_60 rfl (by
  rw [gc_0 (fun z => by first | omega | exact z.2 c15) (fun z => by first | omega | exact z.2 c28) (fun z => by omega)] at hV
  subst hV
  exact ⟨rfl, fun e9 q9 => (by cases q9; exact hI_same), fun k9 x9 e9 => (by cases e9), (kp10.gaP).tr kp11.gaP⟩)
        · exact absurd c34 (by omega)
      · exact absurd c21 (by omega)

