/-! the reference: ACTS -/
theorem cpy_0 (h : Hp) (a s b t : Nat) : cpy h a s b t 0 = h := by
  unfold cpy
  exact sI_same (fun i => by rw [if_neg (by omega)])
theorem cpy_s (h : Hp) (a s b t k : Nat) : sI (cpy h a s b t k) b (t + k) (hI h a (s + k)) = cpy h a s b t (k + 1) := by
  unfold cpy
  rw [sI_sA]
  congr 1
  funext i
  by_cases e : i = t + k
  · rw [if_pos e, if_pos (by omega), e]; congr 1; omega
  · rw [if_neg e]
    by_cases q : t ≤ i ∧ i < t + k
    · rw [if_pos q, if_pos (by omega)]
    · rw [if_neg q, if_neg (by omega)]
theorem cpy_far {h : Hp} {a s b t k j : Nat} (hj : t + k ≤ j) : hI (cpy h a s b t k) b j = hI h b j := cpy_out (Or.inr hj)
def LIS (h : Hp) (P : Int) (l : List Lie) : Prop := hI h 47 48 = l.length ∧ ∀ (k : Nat) (x : Lie), l[k]? = some x → lieAt h P 67 (28 * (l.length - 1 - k)) 67 (28 * (l.length - 1 - k) + 24) x
def SRe (c j : Nat) : Prop := c = 67 ∨ (c = 47 ∧ j = 48)
theorem LIS.shift {h : Hp} {P : Int} {l : List Lie} (hP : P ≤ 24) (hl : l.length = 40) (s : LIS h P l) : LIS (sI (cpy h 67 28 67 0 1092) 47 48 39) P (l.take 39) := by
  have ht : (l.take 39).length = 39 := by rw [List.length_take]; omega
  refine ⟨by rw [hI_same, ht]; rfl, fun k x hx => ?_⟩
  have hk : k < (l.take 39).length := (List.getElem?_eq_some_iff.mp hx).1
  rw [ht] at hk
  rw [List.getElem?_take_of_lt (by omega)] at hx
  have q := s.2 k x hx
  rw [hl] at q
  rw [ht]
  refine ⟨fun i hi => ?_, fun i hi => ?_⟩
  · rw [hI_sI, if_neg (by omega), cpy_in (by omega) (by omega), ← q.1 i hi]; congr 1; omega
  · rw [hI_sI, if_neg (by omega), cpy_in (by omega) (by omega), ← q.2 i hi]; congr 1; omega
theorem LIS.push {h : Hp} {P : Int} {l : List Lie} {x : Lie} (hP : P ≤ 24) (s : LIS h P l) (hx : lieAt h P 52 0 54 0 x) : LIS (sI (cpy (cpy h 52 0 67 (28 * l.length) 24) 54 0 67 (28 * l.length + 24) 4) 47 48 (l.length + 1)) P (x :: l) := by
  refine ⟨by rw [hI_same, List.length_cons]; omega, fun k y hy => ?_⟩
  have hk : k < (x :: l).length := (List.getElem?_eq_some_iff.mp hy).1
  rw [List.length_cons] at hk ⊢
  cases k with
  | zero =>
    cases (Option.some.inj hy)
    rw [show l.length + 1 - 1 - 0 = l.length by omega]
    refine ⟨fun i hi => ?_, fun i hi => ?_⟩
    · rw [hI_sI, if_neg (by omega), cpy_out (by omega), cpy_in (by omega) (by omega), ← hx.1 i hi]; congr 1; omega
    · rw [hI_sI, if_neg (by omega), cpy_in (by omega) (by omega), cpy_I (by decide), ← hx.2 i hi]; congr 1; omega
  | succ k =>
    rw [List.getElem?_cons_succ] at hy
    have q := s.2 k y hy
    have hk2 : k < l.length := (List.getElem?_eq_some_iff.mp hy).1
    rw [show l.length + 1 - 1 - (k + 1) = l.length - 1 - k by omega]
    refine ⟨fun i hi => ?_, fun i hi => ?_⟩
    · rw [hI_sI, if_neg (by omega), cpy_out (by omega), cpy_out (by omega)]; exact q.1 i hi
    · rw [hI_sI, if_neg (by omega), cpy_out (by omega), cpy_out (by omega)]; exact q.2 i hi
theorem Kp.cpy {S : Nat → Nat → Prop} {h : Hp} {a s b t n : Nat} (hs : ∀ j, S b j) : Kp S h (cpy h a s b t n) := Kp.cp hs

set_option maxRecDepth 20000 in
theorem S_X11_remember {X : Cx} {h : Hp} {P : Int} {l0 : Lie} {l : List Lie} (hP : P ≤ 24) (s : LIS h P l) (hl : l.length ≤ 40) (hx : lieAt h P 52 0 54 0 l0) : Spec X mX11_remember 2 [.ref (adr X 47)] h (fun rv h' => rv = none ∧ LIS h' P ((l0 :: l).take 40) ∧ Kp SRe h h') := by
  have s1 := s.1
  refine spec_wp (Nat.le_of_ble_eq_true rfl) (by decide +kernel) ?_
  refine wp_loc [(0, .ref (adr X 47))] ⟨rfl, trivial⟩ ?_
  have K52 : ∀ (h2 : Hp) (l2 : List Lie), LIS h2 P l2 → l2.length < 40 → lieAt h2 P 52 0 54 0 l0 → Kp SRe h h2 → (l0 :: l).take 40 = l0 :: l2 → WP X mX11_remember 2 52 [(0, .ref (adr X 47)), (1, .int (iI 28))] [] h2 (fun rv h' => rv = none ∧ LIS h' P ((l0 :: l).take 40) ∧ Kp SRe h h') := by
    intro h2 l2 s2 hlt hx2 kp2 hl2
    have K120 : WP X mX11_remember 2 120 [(0, .ref (adr X 47)), (1, .int (iI 28)), (2, .int (iI ((4 : Nat) : Int)))] [] (cpy (cpy h2 52 0 67 (28 * l2.length) 24) 54 0 67 (28 * l2.length + 24) 4) (fun rv h' => rv = none ∧ LIS h' P ((l0 :: l).take 40) ∧ Kp SRe h h') := by
      refine wp_aload_n dX11_remember_120 rfl ?_
      refine wp_dup dX11_remember_121 rfl ?_
      refine wp_getI dX11_remember_122 flX11_284 rfl rfl ?_
      rw [cpy_I (by decide), cpy_I (by decide), s2.1]
      refine wp_iconst dX11_remember_125 ?_
      refine wp_iadd dX11_remember_126 ?_
      refine wp_putI dX11_remember_127 plX11_284 rfl rfl ?_
      exact wp_ret dX11_remember_130 rfl (⟨rfl, by rw [hl2]; exact s2.push hP hx2, ((kp2.tr (Kp.cp (fun j => Or.inl rfl))).tr (Kp.cp (fun j => Or.inl rfl))).tr (Kp.sI (Or.inr ⟨rfl, rfl⟩))⟩)
    have K85 : WP X mX11_remember 2 85 [(0, .ref (adr X 47)), (1, .int (iI 28)), (2, .int (iI ((24 : Nat) : Int)))] [] (cpy h2 52 0 67 (28 * l2.length) 24) (fun rv h' => rv = none ∧ LIS h' P ((l0 :: l).take 40) ∧ Kp SRe h h') := by
      have Lb : ∀ (n : Nat) (k : Nat), (k + n = 4) → WP X mX11_remember 2 87 [(0, .ref (adr X 47)), (1, .int (iI 28)), (2, .int (iI (k : Int)))] [] (cpy (cpy h2 52 0 67 (28 * l2.length) 24) 54 0 67 (28 * l2.length + 24) k) (fun rv h' => rv = none ∧ LIS h' P ((l0 :: l).take 40) ∧ Kp SRe h h') := by
        intro n
        induction n with
        | zero =>
          intro k hk
          refine wp_iload_n dX11_remember_87 rfl ?_
          refine wp_iconst dX11_remember_88 ?_
          refine wp_icmpge 120 dX11_remember_89 (by decide) (by unfold InR; omega) (by unfold InR; omega) (fun c89 => ?_) (fun c89 => ?_)
          · rw [show k = 4 by omega]
            exact K120
          · exact absurd c89 (by omega)
        | succ n ih =>
          intro k hk
          refine wp_iload_n dX11_remember_87 rfl ?_
          refine wp_iconst dX11_remember_88 ?_
          refine wp_icmpge 120 dX11_remember_89 (by decide) (by unfold InR; omega) (by unfold InR; omega) (fun c89 => ?_) (fun c89 => ?_)
          · exact absurd c89 (by omega)
          · refine wp_aload_n dX11_remember_92 rfl ?_
            refine wp_getC dX11_remember_93 flX11_86 rfl rfl ?_
            refine wp_iload_n dX11_remember_96 rfl ?_
            refine wp_aload_n dX11_remember_97 rfl ?_
            refine wp_getI dX11_remember_98 flX11_284 rfl rfl ?_
            rw [cpy_I (by decide), cpy_I (by decide), s2.1]
            refine wp_imul dX11_remember_101 ?_
            refine wp_bipush dX11_remember_102 rfl ?_
            refine wp_iadd dX11_remember_104 ?_
            refine wp_iload_n dX11_remember_105 rfl ?_
            refine wp_iadd dX11_remember_106 ?_
            refine wp_aload_n dX11_remember_107 rfl ?_
            refine wp_getC dX11_remember_108 flX11_43 rfl rfl ?_
            refine wp_iload_n dX11_remember_111 rfl ?_
            refine wp_iald dX11_remember_112 rfl (by omega) (by omega) ?_
            rw [show (((k : Nat) : Int)).toNat = 0 + k by omega, cpy_I (by decide)]
            refine wp_iast dX11_remember_113 rfl (by omega) (by omega) ?_
            rw [show (28 * ((l2.length : Nat) : Int) + 24 + ((k : Nat) : Int)).toNat = (28 * l2.length + 24) + k by omega, cpy_s]
            refine wp_iinc dX11_remember_114 rfl (by decide) ?_
            refine wp_goto 87 dX11_remember_117 (by decide) ?_
            refine wp_loc [(0, .ref (adr X 47)), (1, .int (iI 28)), (2, .int (iI ((k + 1 : Nat) : Int)))] ⟨rfl, rfl, rfl, trivial⟩ ?_
            exact ih (k + 1) (by omega)
      refine wp_iconst dX11_remember_85 ?_
      refine wp_istore_n dX11_remember_86 (by decide) ?_
      refine wp_loc [(0, .ref (adr X 47)), (1, .int (iI 28)), (2, .int (iI ((0 : Nat) : Int)))] ⟨rfl, rfl, rfl, trivial⟩ ?_
      have q := Lb 4 0 (by omega)
      rw [cpy_0] at q
      exact q
    have La : ∀ (n : Nat) (k : Nat), (k + n = 24) → WP X mX11_remember 2 54 [(0, .ref (adr X 47)), (1, .int (iI 28)), (2, .int (iI (k : Int)))] [] (cpy h2 52 0 67 (28 * l2.length) k) (fun rv h' => rv = none ∧ LIS h' P ((l0 :: l).take 40) ∧ Kp SRe h h') := by
      intro n
      induction n with
      | zero =>
        intro k hk
        refine wp_iload_n dX11_remember_54 rfl ?_
        refine wp_bipush dX11_remember_55 rfl ?_
        refine wp_icmpge 85 dX11_remember_57 (by decide) (by unfold InR; omega) (by unfold InR; omega) (fun c57 => ?_) (fun c57 => ?_)
        · rw [show k = 24 by omega]
          exact K85
        · exact absurd c57 (by omega)
      | succ n ih =>
        intro k hk
        refine wp_iload_n dX11_remember_54 rfl ?_
        refine wp_bipush dX11_remember_55 rfl ?_
        refine wp_icmpge 85 dX11_remember_57 (by decide) (by unfold InR; omega) (by unfold InR; omega) (fun c57 => ?_) (fun c57 => ?_)
        · exact absurd c57 (by omega)
        · refine wp_aload_n dX11_remember_60 rfl ?_
          refine wp_getC dX11_remember_61 flX11_86 rfl rfl ?_
          refine wp_iload_n dX11_remember_64 rfl ?_
          refine wp_aload_n dX11_remember_65 rfl ?_
          refine wp_getI dX11_remember_66 flX11_284 rfl rfl ?_
          rw [cpy_I (by decide), s2.1]
          refine wp_imul dX11_remember_69 ?_
          refine wp_iload_n dX11_remember_70 rfl ?_
          refine wp_iadd dX11_remember_71 ?_
          refine wp_aload_n dX11_remember_72 rfl ?_
          refine wp_getC dX11_remember_73 flX11_37 rfl rfl ?_
          refine wp_iload_n dX11_remember_76 rfl ?_
          refine wp_iald dX11_remember_77 rfl (by omega) (by omega) ?_
          rw [show (((k : Nat) : Int)).toNat = 0 + k by omega, cpy_I (by decide)]
          refine wp_iast dX11_remember_78 rfl (by omega) (by omega) ?_
          rw [show (28 * ((l2.length : Nat) : Int) + ((k : Nat) : Int)).toNat = (28 * l2.length) + k by omega, cpy_s]
          refine wp_iinc dX11_remember_79 rfl (by decide) ?_
          refine wp_goto 54 dX11_remember_82 (by decide) ?_
          refine wp_loc [(0, .ref (adr X 47)), (1, .int (iI 28)), (2, .int (iI ((k + 1 : Nat) : Int)))] ⟨rfl, rfl, rfl, trivial⟩ ?_
          exact ih (k + 1) (by omega)
    refine wp_iconst dX11_remember_52 ?_
    refine wp_istore_n dX11_remember_53 (by decide) ?_
    refine wp_loc [(0, .ref (adr X 47)), (1, .int (iI 28)), (2, .int (iI ((0 : Nat) : Int)))] ⟨rfl, rfl, rfl, trivial⟩ ?_
    have q := La 24 0 (by omega)
    rw [cpy_0] at q
    exact q
  refine wp_bipush dX11_remember_0 rfl ?_
  refine wp_istore_n dX11_remember_2 (by decide) ?_
  refine wp_aload_n dX11_remember_3 rfl ?_
  refine wp_getI dX11_remember_4 flX11_284 rfl rfl ?_
  rw [s1]
  refine wp_bipush dX11_remember_7 rfl ?_
  refine wp_icmpne 52 dX11_remember_9 (by decide) (by unfold InR; omega) (by unfold InR; omega) (fun c9 => ?_) (fun c9 => ?_)
  · refine wp_loc [(0, .ref (adr X 47)), (1, .int (iI 28))] ⟨rfl, rfl, trivial⟩ ?_
    exact K52 h l s (by omega) hx (Kp.rf h) (by rw [List.take_of_length_le (by rw [List.length_cons]; omega)])
  · refine wp_iconst dX11_remember_12 ?_
    refine wp_istore_n dX11_remember_13 (by decide) ?_
    have K42 : WP X mX11_remember 2 42 [(0, .ref (adr X 47)), (1, .int (iI 28)), (2, .int (iI ((1092 : Nat) : Int)))] [] (cpy h 67 28 67 0 1092) (fun rv h' => rv = none ∧ LIS h' P ((l0 :: l).take 40) ∧ Kp SRe h h') := by
      refine wp_aload_n dX11_remember_42 rfl ?_
      refine wp_dup dX11_remember_43 rfl ?_
      refine wp_getI dX11_remember_44 flX11_284 rfl rfl ?_
      rw [cpy_I (by decide), s1, c9]
      refine wp_iconst dX11_remember_47 ?_
      refine wp_isub dX11_remember_48 ?_
      refine wp_putI dX11_remember_49 plX11_284 rfl rfl ?_
      refine wp_loc [(0, .ref (adr X 47)), (1, .int (iI 28))] ⟨rfl, rfl, trivial⟩ ?_
      exact K52 _ (l.take 39) (s.shift hP (by omega)) (by rw [List.length_take]; omega) ⟨fun i hi => by rw [hI_sI, if_neg (by omega), cpy_I (by decide)]; exact hx.1 i hi, fun i hi => by rw [hI_sI, if_neg (by omega), cpy_I (by decide)]; exact hx.2 i hi⟩ ((Kp.cp (fun j => Or.inl rfl)).tr (Kp.sI (Or.inr ⟨rfl, rfl⟩))) rfl
    have Ls : ∀ (n : Nat) (k : Nat), (k + n = 1092) → WP X mX11_remember 2 14 [(0, .ref (adr X 47)), (1, .int (iI 28)), (2, .int (iI (k : Int)))] [] (cpy h 67 28 67 0 k) (fun rv h' => rv = none ∧ LIS h' P ((l0 :: l).take 40) ∧ Kp SRe h h') := by
      intro n
      induction n with
      | zero =>
        intro k hk
        refine wp_iload_n dX11_remember_14 rfl ?_
        refine wp_iload_n dX11_remember_15 rfl ?_
        refine wp_bipush dX11_remember_16 rfl ?_
        refine wp_imul dX11_remember_18 ?_
        refine wp_icmpge 42 dX11_remember_19 (by decide) (by unfold InR; omega) (by unfold InR; omega) (fun c19 => ?_) (fun c19 => ?_)
        · rw [show k = 1092 by omega]
          exact K42
        · exact absurd c19 (by omega)
      | succ n ih =>
        intro k hk
        refine wp_iload_n dX11_remember_14 rfl ?_
        refine wp_iload_n dX11_remember_15 rfl ?_
        refine wp_bipush dX11_remember_16 rfl ?_
        refine wp_imul dX11_remember_18 ?_
        refine wp_icmpge 42 dX11_remember_19 (by decide) (by unfold InR; omega) (by unfold InR; omega) (fun c19 => ?_) (fun c19 => ?_)
        · exact absurd c19 (by omega)
        · refine wp_aload_n dX11_remember_22 rfl ?_
          refine wp_getC dX11_remember_23 flX11_86 rfl rfl ?_
          refine wp_iload_n dX11_remember_26 rfl ?_
          refine wp_aload_n dX11_remember_27 rfl ?_
          refine wp_getC dX11_remember_28 flX11_86 rfl rfl ?_
          refine wp_iload_n dX11_remember_31 rfl ?_
          refine wp_iload_n dX11_remember_32 rfl ?_
          refine wp_iadd dX11_remember_33 ?_
          refine wp_iald dX11_remember_34 rfl (by omega) (by omega) ?_
          rw [show (((k : Nat) : Int) + 28).toNat = 28 + k by omega, cpy_far (by omega)]
          refine wp_iast dX11_remember_35 rfl (by omega) (by omega) ?_
          rw [show (((k : Nat) : Int)).toNat = 0 + k by omega, cpy_s]
          refine wp_iinc dX11_remember_36 rfl (by decide) ?_
          refine wp_goto 14 dX11_remember_39 (by decide) ?_
          refine wp_loc [(0, .ref (adr X 47)), (1, .int (iI 28)), (2, .int (iI ((k + 1 : Nat) : Int)))] ⟨rfl, rfl, rfl, trivial⟩ ?_
          exact ih (k + 1) (by omega)
    refine wp_loc [(0, .ref (adr X 47)), (1, .int (iI 28)), (2, .int (iI ((0 : Nat) : Int)))] ⟨rfl, rfl, rfl, trivial⟩ ?_
    have q := Ls 1092 0 (by omega)
    rw [cpy_0] at q
    exact q

def SAct (c j : Nat) : Prop := SMx c j ∨ c = 52 ∨ c = 54 ∨ c = 67 ∨ (c = 47 ∧ j = 48)
theorem AM.lis {h : Hp} {σ : Sg} (a : AM h σ) : LIS h (gP (sG σ)) (sAc σ) := a.2.2.2.2.2.2.1
theorem AM.liz {h : Hp} {σ : Sg} (a : AM h σ) (o : SOK σ) : lieAt h (gP (sG σ)) 52 0 54 0 (gLie (sG σ)) := by
  have gb := o.2.2.2.1.b
  refine ⟨fun i hi => ?_, fun i hi => ?_⟩
  · have := a.hv (p := (i : Int)) (by omega)
    rw [show ((i : Int)).toNat = 0 + i by omega] at this
    exact this
  · have := a.sv (l := (i : Int)) (by omega)
    rw [show ((i : Int)).toNat = 0 + i by omega] at this
    exact this
theorem AM.setLie {h h' : Hp} {σ : Sg} {l : List Lie} {z : Lie} (a : AM h σ) (hk : ∀ c j, ¬ SAct c j → hI h' c j = hI h c j) (hr : h'.2.2 = h.2.2) (hl : LIS h' (gP (sG σ)) l) (h1 : hM h' = z.1) (h2 : sM h' = z.2) : AM h' (setG (setA σ l) (gSet (sG σ) z)) := by
  obtain ⟨⟨t1, t2⟩, ⟨w1, w2⟩, d1, r1, ⟨g1, g2, g3, g4, g5, g6⟩, ⟨k1, k2⟩, ⟨c1, c2⟩, ⟨i1, i2⟩⟩ := a
  refine ⟨⟨?_, fun i hi => ?_⟩, ⟨?_, fun w t ht => ?_⟩, ?_, ?_, ⟨?_, ?_, ?_, h1, h2, fun s hs => ?_⟩, ⟨?_, fun i q hq => ?_⟩, hl, ⟨?_, fun l hl => ?_⟩⟩
  · rw [hk 47 6 (by unfold SAct SMx; omega)]; exact t1
  · rw [hk 48 i (by unfold SAct SMx; omega)]; exact t2 i hi
  · rw [hk 47 7 (by unfold SAct SMx; omega)]; exact w1
  · obtain ⟨q1, q2⟩ := w2 w t ht
    exact ⟨by rw [hk 50 _ (by unfold SAct SMx; omega)]; exact q1, fun i hi => by rw [hk 49 _ (by unfold SAct SMx; omega)]; exact q2 i hi⟩
  · rw [hk 47 31 (by unfold SAct SMx; omega)]; exact d1
  · unfold hR; rw [hr]; exact r1
  · rw [hk 47 24 (by unfold SAct SMx; omega)]; exact g1
  · rw [hk 47 26 (by unfold SAct SMx; omega)]; exact g2
  · rw [hk 47 27 (by unfold SAct SMx; omega)]; exact g3
  · rw [hk 56 _ (by unfold SAct SMx; omega), hk 56 _ (by unfold SAct SMx; omega)]; exact g6 s hs
  · rw [hk 47 42 (by unfold SAct SMx; omega)]; exact k1
  · rw [hk 63 _ (by unfold SAct SMx; omega), hk 64 _ (by unfold SAct SMx; omega)]; exact k2 i q hq
  · rw [hk 47 51 (by unfold SAct SMx; omega)]; exact i1
  · have q := i2 l hl
    exact ⟨fun i hi => by rw [hk 68 _ (by unfold SAct SMx; omega)]; exact q.1 i hi, fun i hi => by rw [hk 69 _ (by unfold SAct SMx; omega)]; exact q.2 i hi⟩
theorem SAct.C {h h' : Hp} (hk : ∀ c j, ¬ SAct c j → hI h' c j = hI h c j) (h2 : h'.2 = h.2) : sameC h h' := fun c hc => ⟨by funext j; exact hk c j (by unfold SAct SMx; omega), by rw [h2], by rw [h2]⟩
theorem pushA_ac (σ : Sg) : sAc (pushA σ) = (gLie (sG σ) :: sAc σ).take 40 := rfl

set_option maxRecDepth 20000 in
theorem S_X11_saw {X : Cx} {h : Hp} {σ : Sg} (am : AM h σ) (o : SOK σ) {l b : Int} (hl : InR l) (hb : InR b) : Spec X mX11_saw 60 [.ref (adr X 47), .int (iI l), .int (iI b)] h (fun rv h' => rv = some (.int (iI (rSaw σ l b))) ∧ AM h' (nSaw σ l b) ∧ sameC h h') := by
  refine spec_wp (Nat.le_of_ble_eq_true rfl) (by decide +kernel) ?_
  refine wp_loc [(0, .ref (adr X 47)), (1, .int (iI l)), (2, .int (iI b))] ⟨rfl, rfl, rfl, trivial⟩ ?_
  refine wp_aload_n dX11_saw_0 rfl ?_
  refine wp_iconst dX11_saw_1 ?_
  refine wp_putI dX11_saw_2 plX11_95 rfl rfl ?_
  have k0 : KM h (sI h 47 0 0) := KM.sI (by unfold SMx; omega)
  have am := am.km k0
  generalize sI h 47 0 0 = h0 at *
  have gk := o.2.2.2.1
  have gb := gk.b
  have gkb := gk.2.1
  have e4 : hI h0 47 24 = gP (sG σ) := am.2.2.2.2.1.1
  have e5 : hI h0 47 26 = gA (sG σ) := am.2.2.2.2.1.2.1
  have e6 : hI h0 47 27 = gK (sG σ) := am.2.2.2.2.1.2.2.1
  have em : GM h0 = gE (sG σ) := am.gm
  have ep : gP (GM h0) = gP (sG σ) := e4
  refine wp_aload_n dX11_saw_5 rfl ?_
  refine wp_iload_n dX11_saw_6 rfl ?_
  refine wp_callVp dX11_saw_7 mlX11_293 mvX11_isLeg (S_X11_isLeg (by omega) (by first | assumption | (unfold InR; omega))) rfl rfl (by decide) (by decide) rfl rfl rfl (Nat.le_of_ble_eq_true rfl) ?_
  refine wp_ifeqb 38 dX11_saw_10 (by decide) (fun c10 => ?_) (fun c10 => ?_)
  · refine wp_iconst dX11_saw_38 ?_
    exact wp_iret dX11_saw_39 rfl (⟨vi (by unfold rSaw; rw [if_neg (by omega)]), by unfold nSaw; rw [if_neg (by omega)]; exact am, k0.C⟩)
  · refine wp_iload_n dX11_saw_13 rfl ?_
    refine wp_i2lI dX11_saw_14 (by first | assumption | (unfold InR; omega)) ?_
    refine wp_lconst (v := 1) dX11_saw_15 rfl ?_
    refine wp_ldc2 (v := 99) dX11_saw_16 klX11_376 ?_
    refine wp_callSp dX11_saw_19 mlX11_219 msX11_isIn (S_X11_isIn (a := b) (b := 1) (c := 99) (by first | (exact InR.L (by assumption)) | (unfold InL; omega)) (by unfold InL; omega) (by unfold InL; omega)) rfl rfl (by decide) (by decide) (Nat.le_of_ble_eq_true rfl) ?_
    refine wp_ifeqb 38 dX11_saw_22 (by decide) (fun c22 => ?_) (fun c22 => ?_)
    · refine wp_iconst dX11_saw_38 ?_
      exact wp_iret dX11_saw_39 rfl (⟨vi (by unfold rSaw; rw [if_neg (by omega)]), by unfold nSaw; rw [if_neg (by omega)]; exact am, k0.C⟩)
    · refine wp_aload_n dX11_saw_25 rfl ?_
      refine wp_getC dX11_saw_26 flX11_43 rfl rfl ?_
      refine wp_iload_n dX11_saw_29 rfl ?_
      have sb := gk.s l
      refine wp_iald (n := 4) dX11_saw_30 rfl (by omega) (by omega) ?_
      rw [am.sv (l := l) (by omega)]
      refine wp_iload_n dX11_saw_31 rfl ?_
      refine wp_iadd dX11_saw_32 ?_
      refine wp_bipush dX11_saw_33 rfl ?_
      refine wp_icmple 40 dX11_saw_35 (by decide) (by first | assumption | (unfold InR; omega)) (by first | assumption | (unfold InR; omega)) (fun c35 => ?_) (fun c35 => ?_)
      · refine wp_aload_n dX11_saw_40 rfl ?_
        refine wp_callV dX11_saw_41 mlX11_411 mvX11_remember (S_X11_remember (l0 := gLie (sG σ)) (by omega) am.lis o.2.2.2.2.2.1.1 (am.liz o)) rfl rfl (by decide) (by decide) rfl rfl rfl (Nat.le_of_ble_eq_true rfl) ?_
        rintro rv h1 ⟨rfl, ls1, kp1⟩
        refine wp_aload_n dX11_saw_44 rfl ?_
        refine wp_getC dX11_saw_45 flX11_43 rfl rfl ?_
        refine wp_iload_n dX11_saw_48 rfl ?_
        refine wp_dup2 dX11_saw_49 rfl rfl ?_
        refine wp_iald (n := 4) dX11_saw_50 rfl (by omega) (by omega) ?_
        rw [kp1.1 54 _ (by unfold SRe; omega), am.sv (l := l) (by omega)]
        refine wp_iload_n dX11_saw_51 rfl ?_
        refine wp_iadd dX11_saw_52 ?_
        refine wp_iast dX11_saw_53 (by first | rfl | exact gs1 hG | exact gs2 hG | exact gs3 hG | exact gs4 hG | exact ws1 hW | exact ws2 hW | assumption) (by omega) (by omega) ?_
        refine wp_aload_n dX11_saw_54 rfl ?_
        refine wp_getI dX11_saw_55 flX11_284 rfl rfl ?_
        rw [hI_sI, if_neg (by omega), ls1.1]
        exact wp_iret dX11_saw_58 rfl (by
  have hk2 : ∀ c j, ¬ SAct c j → hI (sI h1 54 l.toNat (gS (sG σ) l + b)) c j = hI h0 c j := fun c j q => by rw [hI_sI, if_neg (by unfold SAct at q; omega), kp1.1 c j (by unfold SAct at q; unfold SRe; omega)]
  refine ⟨vi (by unfold rSaw; rw [if_pos (by omega), pushA_ac]), ?_, sameC_tr k0.C (SAct.C hk2 kp1.2)⟩
  unfold nSaw
  rw [if_pos (by omega)]
  have e3 : hI h1 47 24 = hI h0 47 24 := kp1.1 47 24 (by unfold SRe; omega)
  refine AM.setLie am hk2 (by show h1.2.2 = _; rw [kp1.2]) ⟨by rw [hI_sI, if_neg (by omega)]; exact ls1.1, fun k x hx => ⟨fun i hi => by rw [hI_sI, if_neg (by omega)]; exact (ls1.2 k x hx).1 i hi, fun i hi => by rw [hI_sI, if_neg (by omega)]; exact (ls1.2 k x hx).2 i hi⟩⟩ ?_ ?_
  · rw [hM_eq (h := h0) (by rw [hI_sI, if_neg (by omega)]; exact e3) (fun i => by rw [hI_sI, if_neg (by omega)]; exact kp1.1 52 i (by unfold SRe; omega))]
    exact am.2.2.2.2.1.2.2.2.1
  · rw [sM_set (by omega), sM_eq (h := h0) (fun i => kp1.1 54 i (by unfold SRe; omega)), am.2.2.2.2.1.2.2.2.2.1]
    funext i
    unfold upv
    show _ = if i = l then gS (sG σ) i + b else gS (sG σ) i
    by_cases e : i = l
    · rw [if_pos e, if_pos e, e]
    · rw [if_neg e, if_neg e])
      · refine wp_iconst dX11_saw_38 ?_
        exact wp_iret dX11_saw_39 rfl (⟨vi (by unfold rSaw; rw [if_neg (by omega)]), by unfold nSaw; rw [if_neg (by omega)]; exact am, k0.C⟩)

set_option maxRecDepth 20000 in
theorem S_X11_heap {X : Cx} {h : Hp} {σ : Sg} (am : AM h σ) (o : SOK σ) {p v : Int} (hp : InR p) (hv : InR v) : Spec X mX11_heap 60 [.ref (adr X 47), .int (iI p), .int (iI v)] h (fun rv h' => rv = some (.int (iI (rHeap σ p v))) ∧ AM h' (nHeap σ p v) ∧ sameC h h') := by
  refine spec_wp (Nat.le_of_ble_eq_true rfl) (by decide +kernel) ?_
  refine wp_loc [(0, .ref (adr X 47)), (1, .int (iI p)), (2, .int (iI v))] ⟨rfl, rfl, rfl, trivial⟩ ?_
  refine wp_aload_n dX11_heap_0 rfl ?_
  refine wp_iconst dX11_heap_1 ?_
  refine wp_putI dX11_heap_2 plX11_95 rfl rfl ?_
  have k0 : KM h (sI h 47 0 0) := KM.sI (by unfold SMx; omega)
  have am := am.km k0
  generalize sI h 47 0 0 = h0 at *
  have gk := o.2.2.2.1
  have gb := gk.b
  have gkb := gk.2.1
  have e4 : hI h0 47 24 = gP (sG σ) := am.2.2.2.2.1.1
  have e5 : hI h0 47 26 = gA (sG σ) := am.2.2.2.2.1.2.1
  have e6 : hI h0 47 27 = gK (sG σ) := am.2.2.2.2.1.2.2.1
  have em : GM h0 = gE (sG σ) := am.gm
  have ep : gP (GM h0) = gP (sG σ) := e4
  refine wp_aload_n dX11_heap_5 rfl ?_
  refine wp_iload_n dX11_heap_6 rfl ?_
  refine wp_callVp dX11_heap_7 mlX11_290 mvX11_isTurning (S_X11_isTurning (by omega) (by first | assumption | (unfold InR; omega))) rfl rfl (by decide) (by decide) rfl rfl rfl (Nat.le_of_ble_eq_true rfl) ?_
  refine wp_ifeqb 35 dX11_heap_10 (by decide) (fun c10 => ?_) (fun c10 => ?_)
  · refine wp_iconst dX11_heap_35 ?_
    exact wp_iret dX11_heap_36 rfl (⟨vi (by unfold rHeap; rw [if_neg (by omega)]), by unfold nHeap; rw [if_neg (by omega)]; exact am, k0.C⟩)
  · refine wp_iload_n dX11_heap_13 rfl ?_
    refine wp_i2lI dX11_heap_14 (by first | assumption | (unfold InR; omega)) ?_
    refine wp_lconst (v := 0) dX11_heap_15 rfl ?_
    refine wp_ldc2 (v := 99) dX11_heap_16 klX11_376 ?_
    refine wp_callSp dX11_heap_19 mlX11_219 msX11_isIn (S_X11_isIn (a := v) (b := 0) (c := 99) (by first | (exact InR.L (by assumption)) | (unfold InL; omega)) (by unfold InL; omega) (by unfold InL; omega)) rfl rfl (by decide) (by decide) (Nat.le_of_ble_eq_true rfl) ?_
    refine wp_ifeqb 35 dX11_heap_22 (by decide) (fun c22 => ?_) (fun c22 => ?_)
    · refine wp_iconst dX11_heap_35 ?_
      exact wp_iret dX11_heap_36 rfl (⟨vi (by unfold rHeap; rw [if_neg (by omega)]), by unfold nHeap; rw [if_neg (by omega)]; exact am, k0.C⟩)
    · refine wp_aload_n dX11_heap_25 rfl ?_
      refine wp_getC dX11_heap_26 flX11_37 rfl rfl ?_
      refine wp_iload_n dX11_heap_29 rfl ?_
      have sb := gk.h p
      refine wp_iald (n := 24) dX11_heap_30 rfl (by omega) (by omega) ?_
      rw [am.hv (p := p) (by omega)]
      refine wp_iload_n dX11_heap_31 rfl ?_
      refine wp_icmpne 37 dX11_heap_32 (by decide) (by first | assumption | (unfold InR; omega)) (by first | assumption | (unfold InR; omega)) (fun c32 => ?_) (fun c32 => ?_)
      · refine wp_aload_n dX11_heap_37 rfl ?_
        refine wp_callV dX11_heap_38 mlX11_411 mvX11_remember (S_X11_remember (l0 := gLie (sG σ)) (by omega) am.lis o.2.2.2.2.2.1.1 (am.liz o)) rfl rfl (by decide) (by decide) rfl rfl rfl (Nat.le_of_ble_eq_true rfl) ?_
        rintro rv h1 ⟨rfl, ls1, kp1⟩
        refine wp_aload_n dX11_heap_41 rfl ?_
        refine wp_getC dX11_heap_42 flX11_37 rfl rfl ?_
        refine wp_iload_n dX11_heap_45 rfl ?_
        refine wp_iload_n dX11_heap_46 rfl ?_
        refine wp_iast dX11_heap_47 (by first | rfl | exact gs1 hG | exact gs2 hG | exact gs3 hG | exact gs4 hG | exact ws1 hW | exact ws2 hW | assumption) (by omega) (by omega) ?_
        refine wp_aload_n dX11_heap_48 rfl ?_
        refine wp_getI dX11_heap_49 flX11_284 rfl rfl ?_
        rw [hI_sI, if_neg (by omega), ls1.1]
        exact wp_iret dX11_heap_52 rfl (by
  have hk2 : ∀ c j, ¬ SAct c j → hI (sI h1 52 p.toNat v) c j = hI h0 c j := fun c j q => by rw [hI_sI, if_neg (by unfold SAct at q; omega), kp1.1 c j (by unfold SAct at q; unfold SRe; omega)]
  refine ⟨vi (by unfold rHeap; rw [if_pos (by omega), pushA_ac]), ?_, sameC_tr k0.C (SAct.C hk2 kp1.2)⟩
  unfold nHeap
  rw [if_pos (by omega)]
  have e3 : hI h1 47 24 = hI h0 47 24 := kp1.1 47 24 (by unfold SRe; omega)
  refine AM.setLie am hk2 (by show h1.2.2 = _; rw [kp1.2]) ⟨by rw [hI_sI, if_neg (by omega)]; exact ls1.1, fun k x hx => ⟨fun i hi => by rw [hI_sI, if_neg (by omega)]; exact (ls1.2 k x hx).1 i hi, fun i hi => by rw [hI_sI, if_neg (by omega)]; exact (ls1.2 k x hx).2 i hi⟩⟩ ?_ ?_
  · rw [hM_set (by omega), hM_eq (h := h0) e3 (fun i => kp1.1 52 i (by unfold SRe; omega)), am.2.2.2.2.1.2.2.2.1]
    rfl
  · rw [sM_eq (h := h0) (fun i => by rw [hI_sI, if_neg (by omega)]; exact kp1.1 54 i (by unfold SRe; omega))]
    exact am.2.2.2.2.1.2.2.2.2.1)
      · refine wp_iconst dX11_heap_35 ?_
        exact wp_iret dX11_heap_36 rfl (⟨vi (by unfold rHeap; rw [if_neg (by omega)]), by unfold nHeap; rw [if_neg (by omega)]; exact am, k0.C⟩)

