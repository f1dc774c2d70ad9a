/-! the reference: CARDS -/
def CRD (h : Hp) (T N : Int → Int) (K : Int) : Prop := hI h 47 27 = K ∧ (0 ≤ K ∧ K ≤ 4) ∧ ∀ s : Int, 0 ≤ s → s < K → (hI h 56 (2 * s).toNat = T s ∧ hI h 56 (2 * s + 1).toNat = N s) ∧ (1 ≤ T s ∧ T s ≤ 20) ∧ 0 ≤ N s ∧ N s ≤ 9
def SGW (c j : Nat) : Prop := c = 61 ∨ c = 62 ∨ (c = 47 ∧ j = 39)
theorem CRD.kp {h h' : Hp} {T N : Int → Int} {K : Int} (c : CRD h T N K) (k : Kp SGW h h') : CRD h' T N K := ⟨by rw [k.1 47 27 (by unfold SGW; omega)]; exact c.1, c.2.1, fun s h0 h1 => by rw [k.1 56 _ (by unfold SGW; omega), k.1 56 _ (by unfold SGW; omega)]; exact c.2.2 s h0 h1⟩
theorem AM.crd {h : Hp} {σ : Sg} (a : AM h σ) (o : SOK σ) (hp : 0 < gP (sG σ)) : CRD h (gT (sG σ)) (gN (sG σ)) (gK (sG σ)) := by
  have g := o.2.2.2.1
  refine ⟨a.2.2.2.2.1.2.2.1, g.2.1, fun s h0 h1 => ?_⟩
  have q := a.2.2.2.2.1.2.2.2.2.2 s.toNat (by omega)
  rw [show ((s.toNat : Nat) : Int) = s by omega] at q
  have q2 := g.2.2.2 hp s h0 (by have := g.2.1; omega)
  rw [show (2 * s).toNat = 2 * s.toNat by omega, show (2 * s + 1).toNat = 2 * s.toNat + 1 by omega]
  exact ⟨q, by omega, by omega⟩
theorem gwF_b {T N : Int → Int} : ∀ (r : Nat) (sort left used : Int) (net : Int → Int) (st : StN), (∀ s, sort ≤ s → s < sort + r → 0 ≤ N s ∧ N s ≤ 9) → 0 ≤ used → -1 ≤ st.1 → st.1 ≤ 100 → used + 9 * r ≤ 100 → -1 ≤ (gwF T N r sort left used net st).1 ∧ (gwF T N r sort left used net st).1 ≤ 100
  | 0, sort, left, used, net, st, hN, h0, h1, h2, h3 => by
    unfold gwF
    split
    · exact ⟨h1, h2⟩
    · dsimp only; omega
  | r + 1, sort, left, used, net, st, hN, h0, h1, h2, h3 => by
    have hb := hN sort (Int.le_refl _) (by omega)
    rw [gwF]
    have hf : ∀ (l : List Int) (st : StN), (∀ x ∈ l, -9 ≤ x ∧ x ≤ 9) → -1 ≤ st.1 → st.1 ≤ 100 → -1 ≤ (l.foldl (fun st n => gwF T N r (sort + 1) (left + n * T sort) (used + iabs n) (upv net sort n) st) st).1 ∧ (l.foldl (fun st n => gwF T N r (sort + 1) (left + n * T sort) (used + iabs n) (upv net sort n) st) st).1 ≤ 100 := by
      intro l
      induction l with
      | nil => intro st _ q1 q2; exact ⟨q1, q2⟩
      | cons x l ih =>
        intro st hl q1 q2
        have hx := hl x List.mem_cons_self
        have ax := iabs_b (n := 9) hx
        have b := gwF_b (T := T) r (sort + 1) (left + x * T sort) (used + iabs x) (upv net sort x) st (fun s a b => hN s (by omega) (by omega)) (by omega) q1 q2 (by omega)
        exact ih _ (fun y hy => hl y (List.mem_cons_of_mem _ hy)) b.1 b.2
    exact hf _ st (fun x hx => by rw [rgL_mem] at hx; omega) h1 h2
/-- fewest and bestNet -/
def BST (h : Hp) (K : Int) (st : StN) : Prop := hI h 47 39 = st.1 ∧ (st.1 ≠ -1 → ∀ s : Nat, (s : Int) < K → hI h 62 s = st.2 s)
def GWQ (h : Hp) (K sort : Int) (st : StN) (rv : Option Value) (h' : Hp) : Prop := rv = none ∧ BST h' K st ∧ (∀ s : Nat, (s : Int) < sort → hI h' 61 s = hI h 61 s) ∧ Kp SGW h h'

set_option maxRecDepth 20000 in
theorem S_X11_goWedges {X : Cx} {T N : Int → Int} {K : Int} : ∀ (r : Nat) (sort left used : Int) (net : Int → Int) (st : StN) (h : Hp), CRD h T N K → sort + r = K → 0 ≤ sort → (-1000 - 200 * sort ≤ left ∧ left ≤ 1000 + 200 * sort) → (0 ≤ used ∧ used ≤ 9 * sort) → (-1 ≤ st.1 ∧ st.1 ≤ 100) → (∀ s : Nat, (s : Int) < sort → hI h 61 s = net s) → BST h K st → Spec X mX11_goWedges (r + 1) [.ref (adr X 47), .int (iI sort), .int (iI left), .int (iI used)] h (GWQ h K sort (gwF T N r sort left used net st)) := by
  intro r
  induction r with
  | zero =>
    intro sort left used net st h c hs hl hu hun hsb hnet hb
    obtain ⟨st2, hst⟩ : ∃ st2, st2 = gwF T N 0 sort left used net st := ⟨_, rfl⟩
    rw [← hst]
    refine spec_wp (Nat.le_of_ble_eq_true rfl) (by decide +kernel) ?_
    refine wp_loc [(0, .ref (adr X 47)), (1, .int (iI sort)), (2, .int (iI left)), (3, .int (iI used))] ⟨rfl, rfl, rfl, rfl, trivial⟩ ?_
    have k4 := c.2.1
    refine wp_iload_n dX11_goWedges_0 rfl ?_
    refine wp_aload_n dX11_goWedges_1 rfl ?_
    refine wp_getI dX11_goWedges_2 flX11_275 rfl rfl ?_
    rw [c.1]
    refine wp_icmpne 67 dX11_goWedges_5 (by decide) (by unfold InR; omega) (by unfold InR; omega) (fun c5 => ?_) (fun c5 => ?_)
    · exact absurd c5 (by omega)
    · refine wp_iload_n dX11_goWedges_8 rfl ?_
      refine wp_ifne 28 dX11_goWedges_9 (by decide) (by unfold InR; omega) (fun c9 => ?_) (fun c9 => ?_)
      · exact wp_ret dX11_goWedges_28 rfl (by
  have hst2 : st2 = st := by rw [hst, gwF, if_pos (by omega)]
  rw [hst2]
  exact ⟨rfl, hb, fun _ _ => rfl, Kp.rf h⟩)
      · refine wp_aload_n dX11_goWedges_12 rfl ?_
        refine wp_getI dX11_goWedges_13 flX11_349 rfl rfl ?_
        rw [hb.1]
        refine wp_iconst dX11_goWedges_16 ?_
        refine wp_icmpeq 29 dX11_goWedges_17 (by decide) (by unfold InR; omega) (by unfold InR; omega) (fun c17 => ?_) (fun c17 => ?_)
        · have hst2 : st2 = (used, net) := by rw [hst, gwF, if_neg (by omega)]
          refine wp_aload_n dX11_goWedges_29 rfl ?_
          refine wp_iload_n dX11_goWedges_30 rfl ?_
          refine wp_putI dX11_goWedges_31 plX11_349 rfl rfl ?_
          refine wp_iconst dX11_goWedges_34 ?_
          refine wp_istore dX11_goWedges_35 (by decide) ?_
          have K66 : WP X mX11_goWedges (0 + 1) 66 [(0, .ref (adr X 47)), (1, .int (iI sort)), (2, .int (iI left)), (3, .int (iI used)), (4, .int (iI ((K.toNat : Nat) : Int)))] [] (cpy (sI h 47 39 used) 61 0 62 0 K.toNat) (GWQ h K sort st2) := by
            exact wp_ret dX11_goWedges_66 rfl (by
            rw [hst2]
            refine ⟨rfl, ⟨by rw [cpy_I (by decide), hI_same], fun _ s hs => ?_⟩, fun s hs => by rw [cpy_I (by decide), hI_sI, if_neg (by omega)], (Kp.sI (Or.inr (Or.inr ⟨rfl, rfl⟩))).tr (Kp.cp (fun j => Or.inr (Or.inl rfl)))⟩
            rw [cpy_in (by omega) (by omega), hI_sI, if_neg (by omega), show 0 + (s - 0) = s by omega]
            exact hnet s (by omega))
          have Lgw : ∀ (n : Nat) (k : Nat), (k + n = K.toNat) → WP X mX11_goWedges ((0 + 1)) 37 [(0, .ref (adr X 47)), (1, .int (iI sort)), (2, .int (iI left)), (3, .int (iI used)), (4, .int (iI (k : Int)))] [] (cpy (sI h 47 39 used) 61 0 62 0 k) (GWQ h K sort st2) := by
            intro n
            induction n with
            | zero =>
              intro k hk
              refine wp_iload dX11_goWedges_37 rfl ?_
              refine wp_aload_n dX11_goWedges_39 rfl ?_
              refine wp_getI dX11_goWedges_40 flX11_275 rfl rfl ?_
              rw [cpy_I (by decide), hI_sI, if_neg (by omega), c.1]
              refine wp_icmpge 66 dX11_goWedges_43 (by decide) (by unfold InR; omega) (by unfold InR; omega) (fun c43 => ?_) (fun c43 => ?_)
              · rw [show k = K.toNat by omega]
                exact K66
              · exact absurd c43 (by omega)
            | succ n ih =>
              intro k hk
              refine wp_iload dX11_goWedges_37 rfl ?_
              refine wp_aload_n dX11_goWedges_39 rfl ?_
              refine wp_getI dX11_goWedges_40 flX11_275 rfl rfl ?_
              rw [cpy_I (by decide), hI_sI, if_neg (by omega), c.1]
              refine wp_icmpge 66 dX11_goWedges_43 (by decide) (by unfold InR; omega) (by unfold InR; omega) (fun c43 => ?_) (fun c43 => ?_)
              · exact absurd c43 (by omega)
              · refine wp_aload_n dX11_goWedges_46 rfl ?_
                refine wp_getC dX11_goWedges_47 flX11_71 rfl rfl ?_
                refine wp_iload dX11_goWedges_50 rfl ?_
                refine wp_aload_n dX11_goWedges_52 rfl ?_
                refine wp_getC dX11_goWedges_53 flX11_68 rfl rfl ?_
                refine wp_iload dX11_goWedges_56 rfl ?_
                refine wp_iald dX11_goWedges_58 rfl (by omega) (by omega) ?_
                rw [show (((k : Nat) : Int)).toNat = 0 + k by omega, cpy_I (by decide)]
                refine wp_iast dX11_goWedges_59 rfl (by omega) (by omega) ?_
                rw [show (((k : Nat) : Int)).toNat = 0 + k by omega, cpy_s]
                refine wp_iinc dX11_goWedges_60 rfl (by decide) ?_
                refine wp_goto 37 dX11_goWedges_63 (by decide) ?_
                refine wp_loc [(0, .ref (adr X 47)), (1, .int (iI sort)), (2, .int (iI left)), (3, .int (iI used)), (4, .int (iI ((k + 1 : Nat) : Int)))] ⟨rfl, rfl, rfl, rfl, rfl, trivial⟩ ?_
                exact ih (k + 1) (by omega)
          refine wp_loc [(0, .ref (adr X 47)), (1, .int (iI sort)), (2, .int (iI left)), (3, .int (iI used)), (4, .int (iI ((0 : Nat) : Int)))] ⟨rfl, rfl, rfl, rfl, rfl, trivial⟩ ?_
          have q := Lgw K.toNat 0 (by omega)
          rw [cpy_0] at q
          exact q
        · refine wp_iload_n dX11_goWedges_20 rfl ?_
          refine wp_aload_n dX11_goWedges_21 rfl ?_
          refine wp_getI dX11_goWedges_22 flX11_349 rfl rfl ?_
          rw [hb.1]
          refine wp_icmplt 29 dX11_goWedges_25 (by decide) (by unfold InR; omega) (by unfold InR; omega) (fun c25 => ?_) (fun c25 => ?_)
          · have hst2 : st2 = (used, net) := by rw [hst, gwF, if_neg (by omega)]
            refine wp_aload_n dX11_goWedges_29 rfl ?_
            refine wp_iload_n dX11_goWedges_30 rfl ?_
            refine wp_putI dX11_goWedges_31 plX11_349 rfl rfl ?_
            refine wp_iconst dX11_goWedges_34 ?_
            refine wp_istore dX11_goWedges_35 (by decide) ?_
            have K66 : WP X mX11_goWedges (0 + 1) 66 [(0, .ref (adr X 47)), (1, .int (iI sort)), (2, .int (iI left)), (3, .int (iI used)), (4, .int (iI ((K.toNat : Nat) : Int)))] [] (cpy (sI h 47 39 used) 61 0 62 0 K.toNat) (GWQ h K sort st2) := by
              exact wp_ret dX11_goWedges_66 rfl (by
              rw [hst2]
              refine ⟨rfl, ⟨by rw [cpy_I (by decide), hI_same], fun _ s hs => ?_⟩, fun s hs => by rw [cpy_I (by decide), hI_sI, if_neg (by omega)], (Kp.sI (Or.inr (Or.inr ⟨rfl, rfl⟩))).tr (Kp.cp (fun j => Or.inr (Or.inl rfl)))⟩
              rw [cpy_in (by omega) (by omega), hI_sI, if_neg (by omega), show 0 + (s - 0) = s by omega]
              exact hnet s (by omega))
            have Lgw : ∀ (n : Nat) (k : Nat), (k + n = K.toNat) → WP X mX11_goWedges ((0 + 1)) 37 [(0, .ref (adr X 47)), (1, .int (iI sort)), (2, .int (iI left)), (3, .int (iI used)), (4, .int (iI (k : Int)))] [] (cpy (sI h 47 39 used) 61 0 62 0 k) (GWQ h K sort st2) := by
              intro n
              induction n with
              | zero =>
                intro k hk
                refine wp_iload dX11_goWedges_37 rfl ?_
                refine wp_aload_n dX11_goWedges_39 rfl ?_
                refine wp_getI dX11_goWedges_40 flX11_275 rfl rfl ?_
                rw [cpy_I (by decide), hI_sI, if_neg (by omega), c.1]
                refine wp_icmpge 66 dX11_goWedges_43 (by decide) (by unfold InR; omega) (by unfold InR; omega) (fun c43 => ?_) (fun c43 => ?_)
                · rw [show k = K.toNat by omega]
                  exact K66
                · exact absurd c43 (by omega)
              | succ n ih =>
                intro k hk
                refine wp_iload dX11_goWedges_37 rfl ?_
                refine wp_aload_n dX11_goWedges_39 rfl ?_
                refine wp_getI dX11_goWedges_40 flX11_275 rfl rfl ?_
                rw [cpy_I (by decide), hI_sI, if_neg (by omega), c.1]
                refine wp_icmpge 66 dX11_goWedges_43 (by decide) (by unfold InR; omega) (by unfold InR; omega) (fun c43 => ?_) (fun c43 => ?_)
                · exact absurd c43 (by omega)
                · refine wp_aload_n dX11_goWedges_46 rfl ?_
                  refine wp_getC dX11_goWedges_47 flX11_71 rfl rfl ?_
                  refine wp_iload dX11_goWedges_50 rfl ?_
                  refine wp_aload_n dX11_goWedges_52 rfl ?_
                  refine wp_getC dX11_goWedges_53 flX11_68 rfl rfl ?_
                  refine wp_iload dX11_goWedges_56 rfl ?_
                  refine wp_iald dX11_goWedges_58 rfl (by omega) (by omega) ?_
                  rw [show (((k : Nat) : Int)).toNat = 0 + k by omega, cpy_I (by decide)]
                  refine wp_iast dX11_goWedges_59 rfl (by omega) (by omega) ?_
                  rw [show (((k : Nat) : Int)).toNat = 0 + k by omega, cpy_s]
                  refine wp_iinc dX11_goWedges_60 rfl (by decide) ?_
                  refine wp_goto 37 dX11_goWedges_63 (by decide) ?_
                  refine wp_loc [(0, .ref (adr X 47)), (1, .int (iI sort)), (2, .int (iI left)), (3, .int (iI used)), (4, .int (iI ((k + 1 : Nat) : Int)))] ⟨rfl, rfl, rfl, rfl, rfl, trivial⟩ ?_
                  exact ih (k + 1) (by omega)
            refine wp_loc [(0, .ref (adr X 47)), (1, .int (iI sort)), (2, .int (iI left)), (3, .int (iI used)), (4, .int (iI ((0 : Nat) : Int)))] ⟨rfl, rfl, rfl, rfl, rfl, trivial⟩ ?_
            have q := Lgw K.toNat 0 (by omega)
            rw [cpy_0] at q
            exact q
          · exact wp_ret dX11_goWedges_28 rfl (by
  have hst2 : st2 = st := by rw [hst, gwF, if_pos (by omega)]
  rw [hst2]
  exact ⟨rfl, hb, fun _ _ => rfl, Kp.rf h⟩)
  | succ r ih =>
    intro sort left used net st h c hs hl hu hun hsb hnet hb
    obtain ⟨st2, hst⟩ : ∃ st2, st2 = gwF T N (r + 1) sort left used net st := ⟨_, rfl⟩
    rw [← hst]
    refine spec_wp (Nat.le_of_ble_eq_true rfl) (by decide +kernel) ?_
    refine wp_loc [(0, .ref (adr X 47)), (1, .int (iI sort)), (2, .int (iI left)), (3, .int (iI used))] ⟨rfl, rfl, rfl, rfl, trivial⟩ ?_
    have k4 := c.2.1
    refine wp_iload_n dX11_goWedges_0 rfl ?_
    refine wp_aload_n dX11_goWedges_1 rfl ?_
    refine wp_getI dX11_goWedges_2 flX11_275 rfl rfl ?_
    rw [c.1]
    refine wp_icmpne 67 dX11_goWedges_5 (by decide) (by unfold InR; omega) (by unfold InR; omega) (fun c5 => ?_) (fun c5 => ?_)
    · refine wp_aload_n dX11_goWedges_67 rfl ?_
      refine wp_getC dX11_goWedges_68 flX11_49 rfl rfl ?_
      refine wp_iconst dX11_goWedges_71 ?_
      refine wp_iload_n dX11_goWedges_72 rfl ?_
      refine wp_imul dX11_goWedges_73 ?_
      refine wp_iconst dX11_goWedges_74 ?_
      refine wp_iadd dX11_goWedges_75 ?_
      refine wp_iald (n := 8) dX11_goWedges_76 rfl (by omega) (by omega) ?_
      have cs0 := c.2.2 sort (by omega) (by omega)
      rw [cs0.1.2]
      refine wp_istore dX11_goWedges_77 (by decide) ?_
      refine wp_iload dX11_goWedges_79 rfl ?_
      refine wp_ineg dX11_goWedges_81 ?_
      refine wp_istore dX11_goWedges_82 (by decide) ?_
      have Lgl : ∀ (n : Nat) (x : Int) (sc : StN) (h1 : Hp), (x + n = N sort + 1 ∧ -9 ≤ x) → (-1 ≤ sc.1 ∧ sc.1 ≤ 100) → (BST h1 K sc) → (∀ s : Nat, (s : Int) < sort → hI h1 61 s = hI h 61 s) → (Kp SGW h h1) → (st2 = (rgL n x).foldl (fun st n => gwF T N r (sort + 1) (left + n * T sort) (used + iabs n) (upv net sort n) st) sc) → WP X mX11_goWedges ((r + 1 + 1)) 84 [(0, .ref (adr X 47)), (1, .int (iI sort)), (2, .int (iI left)), (3, .int (iI used)), (4, .int (iI (N sort))), (5, .int (iI x))] [] h1 (GWQ h K sort st2) := by
        intro n
        induction n with
        | zero =>
          intro x sc h1 hx hsc hb1 hn1 kp hV
          have c1 := c.kp kp
          have cs := c1.2.2 sort (by omega) (by omega)
          refine wp_iload dX11_goWedges_84 rfl ?_
          refine wp_iload dX11_goWedges_86 rfl ?_
          refine wp_icmpgt 132 dX11_goWedges_88 (by decide) (by unfold InR; omega) (by unfold InR; omega) (fun c88 => ?_) (fun c88 => ?_)
          · exact wp_ret dX11_goWedges_132 rfl (by
        have hV : st2 = sc := hV
        rw [hV]
        exact ⟨rfl, hb1, hn1, kp⟩)
          · exact absurd c88 (by omega)
        | succ n ihl =>
          intro x sc h1 hx hsc hb1 hn1 kp hV
          have c1 := c.kp kp
          have cs := c1.2.2 sort (by omega) (by omega)
          refine wp_iload dX11_goWedges_84 rfl ?_
          refine wp_iload dX11_goWedges_86 rfl ?_
          refine wp_icmpgt 132 dX11_goWedges_88 (by decide) (by unfold InR; omega) (by unfold InR; omega) (fun c88 => ?_) (fun c88 => ?_)
          · exact absurd c88 (by omega)
          · rw [rgL, List.foldl_cons] at hV
            have ax := iabs_b (n := 9) (x := x) (by omega)
            have tx := mulT_b (t := T sort) (n := 9) (a := x) (by omega) (by omega)
            rw [Int.mul_comm (T sort) x] at tx
            have sb := gwF_b (T := T) (N := N) r (sort + 1) (left + x * T sort) (used + iabs x) (upv net sort x) sc (fun s a b => (c.2.2 s (by omega) (by omega)).2.2) (by omega) hsc.1 hsc.2 (by omega)
            refine wp_aload_n dX11_goWedges_91 rfl ?_
            refine wp_getC dX11_goWedges_92 flX11_68 rfl rfl ?_
            refine wp_iload_n dX11_goWedges_95 rfl ?_
            refine wp_iload dX11_goWedges_96 rfl ?_
            refine wp_iast (n := 4) dX11_goWedges_98 rfl (by omega) (by omega) ?_
            refine wp_aload_n dX11_goWedges_99 rfl ?_
            refine wp_iload_n dX11_goWedges_100 rfl ?_
            refine wp_iconst dX11_goWedges_101 ?_
            refine wp_iadd dX11_goWedges_102 ?_
            refine wp_iload_n dX11_goWedges_103 rfl ?_
            refine wp_iload dX11_goWedges_104 rfl ?_
            refine wp_aload_n dX11_goWedges_106 rfl ?_
            refine wp_getC dX11_goWedges_107 flX11_49 rfl rfl ?_
            refine wp_iconst dX11_goWedges_110 ?_
            refine wp_iload_n dX11_goWedges_111 rfl ?_
            refine wp_imul dX11_goWedges_112 ?_
            refine wp_iald (n := 8) dX11_goWedges_113 rfl (by omega) (by omega) ?_
            rw [hI_sI, if_neg (by omega), cs.1.1]
            refine wp_imul dX11_goWedges_114 ?_
            refine wp_iadd dX11_goWedges_115 ?_
            refine wp_iload_n dX11_goWedges_116 rfl ?_
            refine wp_iload dX11_goWedges_117 rfl ?_
            refine wp_callSp dX11_goWedges_119 mlX11_305 msJ9_abs_0f7a4 (S_J9_abs_0f7a4 (by unfold InR; omega)) rfl rfl (by omega) (by decide) (Nat.le_of_ble_eq_true rfl) ?_
            refine wp_iadd dX11_goWedges_122 ?_
            refine wp_callV dX11_goWedges_123 mlX11_352 mvX11_goWedges (ih (sort + 1) (left + x * T sort) (used + iabs x) (upv net sort x) sc (sI h1 61 sort.toNat x) (c1.kp (Kp.sI (Or.inl rfl))) (by omega) (by omega) (by omega) (by omega) hsc (fun s hs => by
        unfold upv
        rw [hI_sI]
        by_cases e : (s : Int) = sort
        · rw [if_pos ⟨rfl, by omega⟩, if_pos e]
        · rw [if_neg (by omega), if_neg e, hn1 s (by omega)]; exact hnet s (by omega)) ⟨by rw [hI_sI, if_neg (by omega)]; exact hb1.1, fun q s hs => by rw [hI_sI, if_neg (by omega)]; exact hb1.2 q s hs⟩) rfl rfl (by omega) (by decide) rfl rfl rfl (Nat.le_of_ble_eq_true rfl) ?_
            rintro rv h3 ⟨rfl, hb3, hn3, kp3⟩
            refine wp_iinc dX11_goWedges_126 rfl (by decide) ?_
            refine wp_goto 84 dX11_goWedges_129 (by decide) ?_
            refine wp_loc [(0, .ref (adr X 47)), (1, .int (iI sort)), (2, .int (iI left)), (3, .int (iI used)), (4, .int (iI (N sort))), (5, .int (iI (x + 1)))] ⟨rfl, rfl, rfl, rfl, rfl, rfl, trivial⟩ ?_
            exact ihl (x + 1) _ h3 (by omega) sb hb3 (fun s hs => by rw [hn3 s (by omega), hI_sI, if_neg (by omega)]; exact hn1 s hs) ((kp.tr (Kp.sI (Or.inl rfl))).tr kp3) hV
      refine wp_loc [(0, .ref (adr X 47)), (1, .int (iI sort)), (2, .int (iI left)), (3, .int (iI used)), (4, .int (iI (N sort))), (5, .int (iI (-N sort)))] ⟨rfl, rfl, rfl, rfl, rfl, rfl, trivial⟩ ?_
      exact Lgl (2 * N sort + 1).toNat (-N sort) st h (by omega) hsb hb (fun _ _ => rfl) (Kp.rf h) (by rw [hst, gwF])
    · exact absurd c5 (by omega)

theorem SGW.km {h h' : Hp} (k : Kp SGW h h') : KM h h' := KM.kp k (by unfold SGW SMx; omega)
theorem wF_1 {G : Gdn} (g : GOK G) (hP : 0 < gP G) (v : Int) : (wF G v).1 = (gwF (gT G) (gN G) (gK G).toNat 0 v 0 (fun _ => 0) (-1, fun _ => 0)).1 := by rw [wF_gw g hP]; rfl

set_option maxRecDepth 20000 in
theorem S_X11_wedges {X : Cx} {h : Hp} {σ : Sg} (am : AM h σ) (o : SOK σ) {p w : Int} (hp : InR p) (hw : InR w) : Spec X mX11_wedges 60 [.ref (adr X 47), .int (iI p), .int (iI w)] h (fun rv h' => rv = some (.int (iI (qWedges σ p w))) ∧ AM h' σ ∧ sameC h h') := by
  refine spec_wp (Nat.le_of_ble_eq_true rfl) (by decide +kernel) ?_
  refine wp_loc [(0, .ref (adr X 47)), (1, .int (iI p)), (2, .int (iI w))] ⟨rfl, rfl, rfl, trivial⟩ ?_
  refine wp_aload_n dX11_wedges_0 rfl ?_
  refine wp_iconst dX11_wedges_1 ?_
  refine wp_putI dX11_wedges_2 plX11_95 rfl rfl ?_
  have k0 : KM h (sI h 47 0 0) := KM.sI (by unfold SMx; omega)
  have am := am.km k0
  generalize sI h 47 0 0 = h0 at *
  have gk := o.2.2.2.1
  have gb := gk.b
  have gkb := gk.2.1
  have e4 : hI h0 47 24 = gP (sG σ) := am.2.2.2.2.1.1
  have e5 : hI h0 47 26 = gA (sG σ) := am.2.2.2.2.1.2.1
  have e6 : hI h0 47 27 = gK (sG σ) := am.2.2.2.2.1.2.2.1
  have em : GM h0 = gE (sG σ) := am.gm
  have ep : gP (GM h0) = gP (sG σ) := e4
  have vb := gapF_b gk p
  refine wp_aload_n dX11_wedges_5 rfl ?_
  refine wp_iload_n dX11_wedges_6 rfl ?_
  refine wp_callVp dX11_wedges_7 mlX11_290 mvX11_isTurning (S_X11_isTurning (by omega) (by first | assumption | (unfold InR; omega))) rfl rfl (by decide) (by decide) rfl rfl rfl (Nat.le_of_ble_eq_true rfl) ?_
  refine wp_ifeqb 31 dX11_wedges_10 (by decide) (fun c10 => ?_) (fun c10 => ?_)
  · refine wp_ldcw (z := -1000000) dX11_wedges_31 kcX11_313 ?_
    exact wp_iret dX11_wedges_34 rfl (⟨vi (by unfold qWedges; rw [if_neg (by omega)]), am, k0.C⟩)
  · refine wp_iload_n dX11_wedges_13 rfl ?_
    refine wp_i2lI dX11_wedges_14 (by first | assumption | (unfold InR; omega)) ?_
    refine wp_ldc2 (v := -1) dX11_wedges_15 klX11_341 ?_
    refine wp_aload_n dX11_wedges_18 rfl ?_
    refine wp_getI dX11_wedges_19 flX11_275 rfl rfl ?_
    rw [e6]
    refine wp_iconst dX11_wedges_22 ?_
    refine wp_isub dX11_wedges_23 ?_
    refine wp_i2lI dX11_wedges_24 (by first | assumption | (unfold InR; omega)) ?_
    refine wp_callSp dX11_wedges_25 mlX11_219 msX11_isIn (S_X11_isIn (a := w) (b := (-1)) (c := (gK (sG σ) - 1)) (by first | (exact InR.L (by assumption)) | (unfold InL; omega)) (by unfold InL; omega) (by unfold InL; omega)) rfl rfl (by decide) (by decide) (Nat.le_of_ble_eq_true rfl) ?_
    refine wp_ifneb 35 dX11_wedges_28 (by decide) (fun c28 => ?_) (fun c28 => ?_)
    · refine wp_aload_n dX11_wedges_35 rfl ?_
      refine wp_iconst dX11_wedges_36 ?_
      refine wp_putI dX11_wedges_37 plX11_349 rfl rfl ?_
      have k01 := k0.tr (KM.sI (h := h0) (a := 47) (j := 39) (v := -1) (by unfold SMx; omega))
      have am1 := am.km (KM.sI (h := h0) (a := 47) (j := 39) (v := -1) (by unfold SMx; omega))
      have em1 := am1.gm
      refine wp_aload_n dX11_wedges_40 rfl ?_
      refine wp_iconst dX11_wedges_41 ?_
      refine wp_aload_n dX11_wedges_42 rfl ?_
      refine wp_iload_n dX11_wedges_43 rfl ?_
      refine wp_callVp dX11_wedges_44 mlX11_310 mvX11_gapOf (S_X11_gapOf (p := p) (am1.b2 o (by omega)) (by rw [em1]; show _ ∧ _ < gP (sG σ); omega)) rfl rfl (by decide) (by decide) rfl rfl rfl (Nat.le_of_ble_eq_true rfl) ?_
      rw [em1]
      rw [show gapF (gE (sG σ)) p = gapF (sG σ) p from rfl]
      refine wp_iconst dX11_wedges_47 ?_
      refine wp_callV dX11_wedges_48 mlX11_352 mvX11_goWedges (S_X11_goWedges (T := gT (sG σ)) (N := gN (sG σ)) (K := gK (sG σ)) (gK (sG σ)).toNat 0 (gapF (sG σ) p) 0 (fun _ => 0) (-1, fun _ => 0) _ (AM.crd am1 o (by omega)) (by omega) (by omega) (by omega) (by omega) (by decide) (fun s hs => by omega) ⟨hI_same, fun q => absurd rfl q⟩) rfl rfl (by omega) (by decide) rfl rfl rfl (Nat.le_of_ble_eq_true rfl) ?_
      rintro rv h1 ⟨rfl, hb1, -, kp1⟩
      have k1 := k01.tr (SGW.km kp1)
      have am1 := am1.km (SGW.km kp1)
      obtain ⟨st2, hst⟩ : ∃ st2, st2 = gwF (gT (sG σ)) (gN (sG σ)) (gK (sG σ)).toNat 0 (gapF (sG σ) p) 0 (fun _ => 0) (-1, fun _ => 0) := ⟨_, rfl⟩
      have hw5 := wF_gw gk (by omega) (gapF (sG σ) p)
      rw [← hst] at hb1 hw5
      have sb := gwF_b (T := gT (sG σ)) (N := gN (sG σ)) (gK (sG σ)).toNat 0 (gapF (sG σ) p) 0 (fun _ => 0) (-1, fun _ => 0) (fun s a b => ((am.crd o (by omega)).2.2 s a (by omega)).2.2) (by omega) (by decide) (by decide) (by omega)
      rw [← hst] at sb
      refine wp_aload_n dX11_wedges_51 rfl ?_
      refine wp_getI dX11_wedges_52 flX11_349 rfl rfl ?_
      rw [hb1.1]
      refine wp_iconst dX11_wedges_55 ?_
      refine wp_icmpne 65 dX11_wedges_56 (by decide) (by first | assumption | (unfold InR; omega)) (by first | assumption | (unfold InR; omega)) (fun c56 => ?_) (fun c56 => ?_)
      · refine wp_iload_n dX11_wedges_65 rfl ?_
        refine wp_iconst dX11_wedges_66 ?_
        refine wp_icmpne 77 dX11_wedges_67 (by decide) (by first | assumption | (unfold InR; omega)) (by first | assumption | (unfold InR; omega)) (fun c67 => ?_) (fun c67 => ?_)
        · refine wp_aload_n dX11_wedges_77 rfl ?_
          refine wp_getC dX11_wedges_78 flX11_71 rfl rfl ?_
          refine wp_iload_n dX11_wedges_81 rfl ?_
          refine wp_iald (n := 4) dX11_wedges_82 rfl (by omega) (by omega) ?_
          rw [hb1.2 c56 w.toNat (by omega), show ((w.toNat : Nat) : Int) = w by omega]
          exact wp_iret dX11_wedges_83 rfl (by
  refine ⟨vi ?_, am1, k1.C⟩
  unfold qWedges
  rw [if_pos (by omega), hw5]
  show _ = if st2.1 = -1 then _ else _
  rw [if_neg c56, if_neg c67]
  rcases (show w = 0 ∨ w = 1 ∨ w = 2 ∨ w = 3 by omega) with rfl | rfl | rfl | rfl <;> rfl)
        · refine wp_aload_n dX11_wedges_70 rfl ?_
          refine wp_getI dX11_wedges_71 flX11_349 rfl rfl ?_
          rw [hb1.1]
          refine wp_goto 83 dX11_wedges_74 (by decide) ?_
          exact wp_iret dX11_wedges_83 rfl (⟨vi (by unfold qWedges; rw [if_pos (by omega), hw5]; show _ = if st2.1 = -1 then _ else _; rw [if_neg c56, if_pos c67]; rfl), am1, k1.C⟩)
      · refine wp_ldcw (z := -1000000) dX11_wedges_59 kcX11_313 ?_
        refine wp_goto 83 dX11_wedges_62 (by decide) ?_
        exact wp_iret dX11_wedges_83 rfl (⟨vi (by unfold qWedges; rw [if_pos (by omega), hw5]; show _ = if st2.1 = -1 then _ else _; rw [if_pos c56]), am1, k1.C⟩)
    · refine wp_ldcw (z := -1000000) dX11_wedges_31 kcX11_313 ?_
      exact wp_iret dX11_wedges_34 rfl (⟨vi (by unfold qWedges; rw [if_neg (by omega)]), am, k0.C⟩)

set_option maxRecDepth 20000 in
theorem S_X11_cheap {X : Cx} {h : Hp} {σ : Sg} (am : AM h σ) (o : SOK σ) {p hv ct w : Int} (hp : InR p) (hhv : InR hv) (hct : InR ct) (hw : InR w) : Spec X mX11_cheap 60 [.ref (adr X 47), .int (iI p), .int (iI hv), .int (iI ct), .int (iI w)] h (fun rv h' => rv = some (.int (iI (qCheap σ p hv ct w))) ∧ AM h' σ ∧ sameC h h') := by
  refine spec_wp (Nat.le_of_ble_eq_true rfl) (by decide +kernel) ?_
  refine wp_loc [(0, .ref (adr X 47)), (1, .int (iI p)), (2, .int (iI hv)), (3, .int (iI ct)), (4, .int (iI w))] ⟨rfl, rfl, rfl, rfl, rfl, trivial⟩ ?_
  refine wp_aload_n dX11_cheap_0 rfl ?_
  refine wp_iconst dX11_cheap_1 ?_
  refine wp_putI dX11_cheap_2 plX11_95 rfl rfl ?_
  have k0 : KM h (sI h 47 0 0) := KM.sI (by unfold SMx; omega)
  have am := am.km k0
  generalize sI h 47 0 0 = h0 at *
  have gk := o.2.2.2.1
  have gb := gk.b
  have gkb := gk.2.1
  have e4 : hI h0 47 24 = gP (sG σ) := am.2.2.2.2.1.1
  have e5 : hI h0 47 26 = gA (sG σ) := am.2.2.2.2.1.2.1
  have e6 : hI h0 47 27 = gK (sG σ) := am.2.2.2.2.1.2.2.1
  have em : GM h0 = gE (sG σ) := am.gm
  have ep : gP (GM h0) = gP (sG σ) := e4
  obtain ⟨V, hV0⟩ : ∃ V : Int, V = qCheap σ p hv ct w := ⟨_, rfl⟩
  rw [← hV0]
  unfold qCheap at hV0
  refine wp_aload_n dX11_cheap_5 rfl ?_
  refine wp_iload_n dX11_cheap_6 rfl ?_
  refine wp_callVp dX11_cheap_7 mlX11_290 mvX11_isTurning (S_X11_isTurning (by omega) (by first | assumption | (unfold InR; omega))) rfl rfl (by decide) (by decide) rfl rfl rfl (Nat.le_of_ble_eq_true rfl) ?_
  refine wp_ifeqb 48 dX11_cheap_10 (by decide) (fun c10 => ?_) (fun c10 => ?_)
  · refine wp_iconst dX11_cheap_48 ?_
    exact wp_iret dX11_cheap_49 rfl (⟨vi (by rw [hV0, if_neg (by omega)]), am, k0.C⟩)
  · refine wp_iload_n dX11_cheap_13 rfl ?_
    refine wp_i2lI dX11_cheap_14 (by first | assumption | (unfold InR; omega)) ?_
    refine wp_lconst (v := 0) dX11_cheap_15 rfl ?_
    refine wp_ldc2 (v := 99) dX11_cheap_16 klX11_376 ?_
    refine wp_callSp dX11_cheap_19 mlX11_219 msX11_isIn (S_X11_isIn (a := hv) (b := 0) (c := 99) (by first | (exact InR.L (by assumption)) | (unfold InL; omega)) (by unfold InL; omega) (by unfold InL; omega)) rfl rfl (by decide) (by decide) (Nat.le_of_ble_eq_true rfl) ?_
    refine wp_ifeqb 48 dX11_cheap_22 (by decide) (fun c22 => ?_) (fun c22 => ?_)
    · refine wp_iconst dX11_cheap_48 ?_
      exact wp_iret dX11_cheap_49 rfl (⟨vi (by rw [hV0, if_neg (by omega)]), am, k0.C⟩)
    · refine wp_iload_n dX11_cheap_25 rfl ?_
      refine wp_i2lI dX11_cheap_26 (by first | assumption | (unfold InR; omega)) ?_
      refine wp_lconst (v := 0) dX11_cheap_27 rfl ?_
      refine wp_ldc2 (v := 99) dX11_cheap_28 klX11_376 ?_
      refine wp_callSp dX11_cheap_31 mlX11_219 msX11_isIn (S_X11_isIn (a := ct) (b := 0) (c := 99) (by first | (exact InR.L (by assumption)) | (unfold InL; omega)) (by unfold InL; omega) (by unfold InL; omega)) rfl rfl (by decide) (by decide) (Nat.le_of_ble_eq_true rfl) ?_
      refine wp_ifeqb 48 dX11_cheap_34 (by decide) (fun c34 => ?_) (fun c34 => ?_)
      · refine wp_iconst dX11_cheap_48 ?_
        exact wp_iret dX11_cheap_49 rfl (⟨vi (by rw [hV0, if_neg (by omega)]), am, k0.C⟩)
      · refine wp_iload dX11_cheap_37 rfl ?_
        refine wp_i2lI dX11_cheap_39 (by first | assumption | (unfold InR; omega)) ?_
        refine wp_lconst (v := 0) dX11_cheap_40 rfl ?_
        refine wp_lconst (v := 1) dX11_cheap_41 rfl ?_
        refine wp_callSp dX11_cheap_42 mlX11_219 msX11_isIn (S_X11_isIn (a := w) (b := 0) (c := 1) (by first | (exact InR.L (by assumption)) | (unfold InL; omega)) (by unfold InL; omega) (by unfold InL; omega)) rfl rfl (by decide) (by decide) (Nat.le_of_ble_eq_true rfl) ?_
        refine wp_ifneb 50 dX11_cheap_45 (by decide) (fun c45 => ?_) (fun c45 => ?_)
        · refine wp_iconst dX11_cheap_50 ?_
          refine wp_istore dX11_cheap_51 (by decide) ?_
          refine wp_iconst dX11_cheap_53 ?_
          refine wp_istore dX11_cheap_54 (by decide) ?_
          refine wp_iconst dX11_cheap_56 ?_
          refine wp_istore dX11_cheap_57 (by decide) ?_
          have Lch : ∀ (n : Nat) (q f l : Int) (h2 : Hp), (q + n = gP (sG σ) ∧ 0 ≤ q) → ((-1 ≤ f ∧ f ≤ 24) ∧ 0 ≤ l ∧ l ≤ 20000) → (AM h2 σ) → (KM h h2) → (V = selC w (chF (sG σ) p hv ct n q f l)) → WP X mX11_cheap 60 59 [(0, .ref (adr X 47)), (1, .int (iI p)), (2, .int (iI hv)), (3, .int (iI ct)), (4, .int (iI w)), (5, .int (iI f)), (6, .int (iI l)), (7, .int (iI q))] [] h2 (fun rv h' => rv = some (.int (iI V)) ∧ AM h' σ ∧ sameC h h') := by
            intro n
            induction n with
            | zero =>
              intro q f l h2 hn hfl am2 k2 hV
              have e24 : hI h2 47 24 = gP (sG σ) := am2.2.2.2.2.1.1
              refine wp_iload dX11_cheap_59 rfl ?_
              refine wp_aload_n dX11_cheap_61 rfl ?_
              refine wp_getI dX11_cheap_62 flX11_272 rfl rfl ?_
              rw [e24]
              refine wp_icmpge 158 dX11_cheap_65 (by decide) (by first | assumption | (unfold InR; omega)) (by first | assumption | (unfold InR; omega)) (fun c65 => ?_) (fun c65 => ?_)
              · refine wp_iload dX11_cheap_158 rfl ?_
                refine wp_iconst dX11_cheap_160 ?_
                refine wp_icmpne 168 dX11_cheap_161 (by decide) (by first | assumption | (unfold InR; omega)) (by first | assumption | (unfold InR; omega)) (fun c161 => ?_) (fun c161 => ?_)
                · refine wp_iload dX11_cheap_168 rfl ?_
                  refine wp_ifne 178 dX11_cheap_170 (by decide) (by first | assumption | (unfold InR; omega)) (fun c170 => ?_) (fun c170 => ?_)
                  · refine wp_iload dX11_cheap_178 rfl ?_
                    exact wp_iret dX11_cheap_180 rfl (by
            have hV : V = selC w (f, l) := hV
            unfold selC at hV
            dsimp only at hV
            rw [if_neg (by omega)] at hV
            exact ⟨vi (by rw [hV]), am2, k2.C⟩)
                  · refine wp_iload dX11_cheap_173 rfl ?_
                    refine wp_goto 180 dX11_cheap_175 (by decide) ?_
                    exact wp_iret dX11_cheap_180 rfl (by
            have hV : V = selC w (f, l) := hV
            unfold selC at hV
            dsimp only at hV
            rw [if_pos (Or.inr c170)] at hV
            exact ⟨vi (by rw [hV]), am2, k2.C⟩)
                · refine wp_iconst dX11_cheap_164 ?_
                  refine wp_goto 180 dX11_cheap_165 (by decide) ?_
                  exact wp_iret dX11_cheap_180 rfl (by
            have hV : V = selC w (f, l) := hV
            unfold selC at hV
            dsimp only at hV
            rw [if_pos (Or.inl c161)] at hV
            exact ⟨vi (by rw [hV]; exact c161.symm), am2, k2.C⟩)
              · exact absurd c65 (by omega)
            | succ n ih =>
              intro q f l h2 hn hfl am2 k2 hV
              have e24 : hI h2 47 24 = gP (sG σ) := am2.2.2.2.2.1.1
              refine wp_iload dX11_cheap_59 rfl ?_
              refine wp_aload_n dX11_cheap_61 rfl ?_
              refine wp_getI dX11_cheap_62 flX11_272 rfl rfl ?_
              rw [e24]
              refine wp_icmpge 158 dX11_cheap_65 (by decide) (by first | assumption | (unfold InR; omega)) (by first | assumption | (unfold InR; omega)) (fun c65 => ?_) (fun c65 => ?_)
              · exact absurd c65 (by omega)
              · refine wp_aload_n dX11_cheap_68 rfl ?_
                refine wp_iconst dX11_cheap_69 ?_
                refine wp_putI dX11_cheap_70 plX11_349 rfl rfl ?_
                have km3 : KM h2 (sI h2 47 39 (-1)) := KM.sI (by unfold SMx; omega)
                have am3 := am2.km km3
                have em3 := am3.gm
                have vb := gapF_b gk q
                refine wp_aload_n dX11_cheap_73 rfl ?_
                refine wp_iconst dX11_cheap_74 ?_
                refine wp_aload_n dX11_cheap_75 rfl ?_
                refine wp_iload dX11_cheap_76 rfl ?_
                refine wp_callVp dX11_cheap_78 mlX11_310 mvX11_gapOf (S_X11_gapOf (p := q) (am3.b2 o (by omega)) (by rw [em3]; show _ ∧ _ < gP (sG σ); omega)) rfl rfl (by decide) (by decide) rfl rfl rfl (Nat.le_of_ble_eq_true rfl) ?_
                rw [em3]
                rw [show gapF (gE (sG σ)) q = gapF (sG σ) q from rfl]
                refine wp_iconst dX11_cheap_81 ?_
                refine wp_callV dX11_cheap_82 mlX11_352 mvX11_goWedges (S_X11_goWedges (T := gT (sG σ)) (N := gN (sG σ)) (K := gK (sG σ)) (gK (sG σ)).toNat 0 (gapF (sG σ) q) 0 (fun _ => 0) (-1, fun _ => 0) _ (AM.crd am3 o (by omega)) (by omega) (by omega) (by omega) (by omega) (by decide) (fun s hs => by omega) ⟨hI_same, fun q => absurd rfl q⟩) rfl rfl (by omega) (by decide) rfl rfl rfl (Nat.le_of_ble_eq_true rfl) ?_
                rintro rv h4 ⟨rfl, hb4, -, kp4⟩
                have k4 := (k2.tr km3).tr (SGW.km kp4)
                have am4 := am3.km (SGW.km kp4)
                have e44 : hI h4 47 24 = gP (sG σ) := am4.2.2.2.2.1.1
                have w1 := wF_1 gk (by omega) (gapF (sG σ) q)
                have sb := gwF_b (T := gT (sG σ)) (N := gN (sG σ)) (gK (sG σ)).toNat 0 (gapF (sG σ) q) 0 (fun _ => 0) (-1, fun _ => 0) (fun s a b => ((am.crd o (by omega)).2.2 s a (by omega)).2.2) (by omega) (by decide) (by decide) (by omega)
                have hb4 := hb4.1
                rw [← w1] at hb4 sb
                rw [chF] at hV
                refine wp_aload_n dX11_cheap_85 rfl ?_
                refine wp_getI dX11_cheap_86 flX11_349 rfl rfl ?_
                rw [hb4]
                refine wp_iconst dX11_cheap_89 ?_
                refine wp_icmpne 96 dX11_cheap_90 (by decide) (by first | assumption | (unfold InR; omega)) (by first | assumption | (unfold InR; omega)) (fun c90 => ?_) (fun c90 => ?_)
                · refine wp_iload dX11_cheap_96 rfl ?_
                  refine wp_iload_n dX11_cheap_98 rfl ?_
                  refine wp_isub dX11_cheap_99 ?_
                  refine wp_callSp dX11_cheap_100 mlX11_305 msJ9_abs_0f7a4 (S_J9_abs_0f7a4 (by unfold InR; omega)) rfl rfl (by decide) (by decide) (Nat.le_of_ble_eq_true rfl) ?_
                  refine wp_istore dX11_cheap_103 (by decide) ?_
                  refine wp_iload_n dX11_cheap_105 rfl ?_
                  refine wp_iload dX11_cheap_106 rfl ?_
                  refine wp_aload_n dX11_cheap_108 rfl ?_
                  refine wp_getI dX11_cheap_109 flX11_272 rfl rfl ?_
                  rw [e44]
                  refine wp_iload dX11_cheap_112 rfl ?_
                  refine wp_isub dX11_cheap_114 ?_
                  refine wp_callSp dX11_cheap_115 mlX11_384 msJ9_min_7cf53 (S_J9_min_7cf53 (by have aq := iabs_b (n := 24) (x := q - p) (by omega); unfold InR; omega) (by have aq := iabs_b (n := 24) (x := q - p) (by omega); unfold InR; omega)) rfl rfl (by decide) (by decide) (Nat.le_of_ble_eq_true rfl) ?_
                  refine wp_imul dX11_cheap_118 ?_
                  refine wp_iload_n dX11_cheap_119 rfl ?_
                  refine wp_aload_n dX11_cheap_120 rfl ?_
                  refine wp_getI dX11_cheap_121 flX11_349 rfl rfl ?_
                  rw [hb4]
                  refine wp_imul dX11_cheap_124 ?_
                  refine wp_iadd dX11_cheap_125 ?_
                  have aq := iabs_b (n := gP (sG σ)) (x := q - p) (by omega)
                  have m1 := mulT_b (t := hv) (n := 24) (a := min (iabs (q - p)) (gP (sG σ) - iabs (q - p))) (by omega) (by omega)
                  have m1b := Int.mul_nonneg (show 0 ≤ hv by omega) (show 0 ≤ min (iabs (q - p)) (gP (sG σ) - iabs (q - p)) by omega)
                  have m2 := mulT_b (t := ct) (n := 100) (a := (wF (sG σ) (gapF (sG σ) q)).1) (by omega) (by omega)
                  have m2b := Int.mul_nonneg (show 0 ≤ ct by omega) (show 0 ≤ (wF (sG σ) (gapF (sG σ) q)).1 by omega)
                  have mh : hv * 24 ≤ 2376 := by omega
                  have mc : ct * 100 ≤ 9900 := by omega
                  refine wp_istore dX11_cheap_126 (by decide) ?_
                  refine wp_iload dX11_cheap_128 rfl ?_
                  refine wp_iconst dX11_cheap_130 ?_
                  refine wp_icmpeq 144 dX11_cheap_131 (by decide) (by first | assumption | (unfold InR; omega)) (by first | assumption | (unfold InR; omega)) (fun c131 => ?_) (fun c131 => ?_)
                  · refine wp_iload dX11_cheap_144 rfl ?_
                    refine wp_istore dX11_cheap_146 (by decide) ?_
                    refine wp_iload dX11_cheap_148 rfl ?_
                    refine wp_istore dX11_cheap_150 (by decide) ?_
                    refine wp_iinc dX11_cheap_152 rfl (by decide) ?_
                    refine wp_goto 59 dX11_cheap_155 (by decide) ?_
                    rw [if_pos ⟨c90, by omega⟩] at hV
                    refine wp_loc [(0, .ref (adr X 47)), (1, .int (iI p)), (2, .int (iI hv)), (3, .int (iI ct)), (4, .int (iI w)), (5, .int (iI q)), (6, .int (iI (hv * min (iabs (q - p)) (gP (sG σ) - iabs (q - p)) + ct * (wF (sG σ) (gapF (sG σ) q)).1))), (7, .int (iI (q + 1)))] ⟨rfl, rfl, rfl, rfl, rfl, rfl, rfl, rfl, trivial⟩ ?_
                    exact ih (q + 1) q _ h4 (by omega) (by omega) am4 k4 hV
                  · refine wp_iload dX11_cheap_134 rfl ?_
                    refine wp_iload dX11_cheap_136 rfl ?_
                    refine wp_icmplt 144 dX11_cheap_138 (by decide) (by first | assumption | (unfold InR; omega)) (by first | assumption | (unfold InR; omega)) (fun c138 => ?_) (fun c138 => ?_)
                    · refine wp_iload dX11_cheap_144 rfl ?_
                      refine wp_istore dX11_cheap_146 (by decide) ?_
                      refine wp_iload dX11_cheap_148 rfl ?_
                      refine wp_istore dX11_cheap_150 (by decide) ?_
                      refine wp_iinc dX11_cheap_152 rfl (by decide) ?_
                      refine wp_goto 59 dX11_cheap_155 (by decide) ?_
                      rw [if_pos ⟨c90, by omega⟩] at hV
                      refine wp_loc [(0, .ref (adr X 47)), (1, .int (iI p)), (2, .int (iI hv)), (3, .int (iI ct)), (4, .int (iI w)), (5, .int (iI q)), (6, .int (iI (hv * min (iabs (q - p)) (gP (sG σ) - iabs (q - p)) + ct * (wF (sG σ) (gapF (sG σ) q)).1))), (7, .int (iI (q + 1)))] ⟨rfl, rfl, rfl, rfl, rfl, rfl, rfl, rfl, trivial⟩ ?_
                      exact ih (q + 1) q _ h4 (by omega) (by omega) am4 k4 hV
                    · refine wp_goto 152 dX11_cheap_141 (by decide) ?_
                      refine wp_iinc dX11_cheap_152 rfl (by decide) ?_
                      refine wp_goto 59 dX11_cheap_155 (by decide) ?_
                      rw [if_neg (fun z => by omega)] at hV
                      refine wp_loc [(0, .ref (adr X 47)), (1, .int (iI p)), (2, .int (iI hv)), (3, .int (iI ct)), (4, .int (iI w)), (5, .int (iI f)), (6, .int (iI l)), (7, .int (iI (q + 1)))] ⟨rfl, rfl, rfl, rfl, rfl, rfl, rfl, rfl, trivial⟩ ?_
                      exact ih (q + 1) f l h4 (by omega) hfl am4 k4 hV
                · refine wp_goto 152 dX11_cheap_93 (by decide) ?_
                  refine wp_iinc dX11_cheap_152 rfl (by decide) ?_
                  refine wp_goto 59 dX11_cheap_155 (by decide) ?_
                  rw [if_neg (fun z => z.1 c90)] at hV
                  refine wp_loc [(0, .ref (adr X 47)), (1, .int (iI p)), (2, .int (iI hv)), (3, .int (iI ct)), (4, .int (iI w)), (5, .int (iI f)), (6, .int (iI l)), (7, .int (iI (q + 1)))] ⟨rfl, rfl, rfl, rfl, rfl, rfl, rfl, rfl, trivial⟩ ?_
                  exact ih (q + 1) f l h4 (by omega) hfl am4 k4 hV
          refine wp_loc [(0, .ref (adr X 47)), (1, .int (iI p)), (2, .int (iI hv)), (3, .int (iI ct)), (4, .int (iI w)), (5, .int (iI (-1))), (6, .int (iI 0)), (7, .int (iI 0))] ⟨rfl, rfl, rfl, rfl, rfl, rfl, rfl, rfl, trivial⟩ ?_
          exact Lch (gP (sG σ)).toNat 0 (-1) 0 h0 (by omega) (by omega) am k0 (by rw [hV0, if_pos (by omega)])
        · refine wp_iconst dX11_cheap_48 ?_
          exact wp_iret dX11_cheap_49 rfl (⟨vi (by rw [hV0, if_neg (by omega)]), am, k0.C⟩)

set_option maxRecDepth 20000 in
theorem S_X11_pilesFrom {X : Cx} {h : Hp} {T N : Int → Int} {K : Int} (c : CRD h T N K) : ∀ (r : Nat) (sort left : Int), sort + r = K → 0 ≤ sort → (-1000 - 200 * sort ≤ left ∧ left ≤ 1000 + 200 * sort) → Spec X mX11_pilesFrom (r + 1) [.ref (adr X 47), .int (iI sort), .int (iI left)] h (fun rv h' => rv = some (.int (iI (pfF T N r sort left))) ∧ h' = h) := by
  have k4 := c.2.1
  intro r
  induction r with
  | zero =>
    intro sort left hs h0 hl
    obtain ⟨V, hV⟩ : ∃ V, V = pfF T N 0 sort left := ⟨_, rfl⟩
    rw [← hV]
    refine spec_wp (Nat.le_of_ble_eq_true rfl) (by decide +kernel) ?_
    refine wp_loc [(0, .ref (adr X 47)), (1, .int (iI sort)), (2, .int (iI left))] ⟨rfl, rfl, rfl, trivial⟩ ?_
    refine wp_iload_n dX11_pilesFrom_0 rfl ?_
    refine wp_aload_n dX11_pilesFrom_1 rfl ?_
    refine wp_getI dX11_pilesFrom_2 flX11_275 rfl rfl ?_
    rw [c.1]
    refine wp_icmpne 18 dX11_pilesFrom_5 (by decide) (by unfold InR; omega) (by unfold InR; omega) (fun c5 => ?_) (fun c5 => ?_)
    · exact absurd c5 (by omega)
    · refine wp_iload_n dX11_pilesFrom_8 rfl ?_
      refine wp_ifne 16 dX11_pilesFrom_9 (by decide) (by unfold InR; omega) (fun c9 => ?_) (fun c9 => ?_)
      · refine wp_iconst dX11_pilesFrom_16 ?_
        exact wp_iret dX11_pilesFrom_17 rfl (⟨vi (by rw [hV, pfF, if_neg c9]), rfl⟩)
      · refine wp_iconst dX11_pilesFrom_12 ?_
        refine wp_goto 17 dX11_pilesFrom_13 (by decide) ?_
        exact wp_iret dX11_pilesFrom_17 rfl (⟨vi (by rw [hV, pfF, if_pos c9]), rfl⟩)
  | succ r ih =>
    intro sort left hs h0 hl
    obtain ⟨V, hV⟩ : ∃ V, V = pfF T N (r + 1) sort left := ⟨_, rfl⟩
    rw [← hV]
    refine spec_wp (Nat.le_of_ble_eq_true rfl) (by decide +kernel) ?_
    refine wp_loc [(0, .ref (adr X 47)), (1, .int (iI sort)), (2, .int (iI left))] ⟨rfl, rfl, rfl, trivial⟩ ?_
    refine wp_iload_n dX11_pilesFrom_0 rfl ?_
    refine wp_aload_n dX11_pilesFrom_1 rfl ?_
    refine wp_getI dX11_pilesFrom_2 flX11_275 rfl rfl ?_
    rw [c.1]
    have cs := c.2.2 sort (by omega) (by omega)
    refine wp_icmpne 18 dX11_pilesFrom_5 (by decide) (by unfold InR; omega) (by unfold InR; omega) (fun c5 => ?_) (fun c5 => ?_)
    · refine wp_iconst dX11_pilesFrom_18 ?_
      refine wp_istore_n dX11_pilesFrom_19 (by decide) ?_
      refine wp_aload_n dX11_pilesFrom_20 rfl ?_
      refine wp_getC dX11_pilesFrom_21 flX11_49 rfl rfl ?_
      refine wp_iconst dX11_pilesFrom_24 ?_
      refine wp_iload_n dX11_pilesFrom_25 rfl ?_
      refine wp_imul dX11_pilesFrom_26 ?_
      refine wp_iconst dX11_pilesFrom_27 ?_
      refine wp_iadd dX11_pilesFrom_28 ?_
      refine wp_iald (n := 8) dX11_pilesFrom_29 rfl (by omega) (by omega) ?_
      rw [cs.1.2]
      refine wp_ineg dX11_pilesFrom_30 ?_
      refine wp_istore dX11_pilesFrom_31 (by decide) ?_
      have Lpf : ∀ (n : Nat) (x cc : Int), (x + n = N sort + 1 ∧ -9 ≤ x) → (V = (rgL n x).foldl (fun c n => c + pfF T N r (sort + 1) (left + n * T sort)) cc) → WP X mX11_pilesFrom ((r + 1 + 1)) 33 [(0, .ref (adr X 47)), (1, .int (iI sort)), (2, .int (iI left)), (3, .int (iI cc)), (4, .int (iI x))] [] h (fun rv h' => rv = some (.int (iI V)) ∧ h' = h) := by
        intro n
        induction n with
        | zero =>
          intro x cc hx hU
          refine wp_iload dX11_pilesFrom_33 rfl ?_
          refine wp_aload_n dX11_pilesFrom_35 rfl ?_
          refine wp_getC dX11_pilesFrom_36 flX11_49 rfl rfl ?_
          refine wp_iconst dX11_pilesFrom_39 ?_
          refine wp_iload_n dX11_pilesFrom_40 rfl ?_
          refine wp_imul dX11_pilesFrom_41 ?_
          refine wp_iconst dX11_pilesFrom_42 ?_
          refine wp_iadd dX11_pilesFrom_43 ?_
          refine wp_iald (n := 8) dX11_pilesFrom_44 rfl (by omega) (by omega) ?_
          rw [cs.1.2]
          refine wp_icmpgt 77 dX11_pilesFrom_45 (by decide) (by unfold InR; omega) (by unfold InR; omega) (fun c45 => ?_) (fun c45 => ?_)
          · refine wp_iload_n dX11_pilesFrom_77 rfl ?_
            exact wp_iret dX11_pilesFrom_78 rfl (⟨vi hU.symm, rfl⟩)
          · exact absurd c45 (by omega)
        | succ n ihl =>
          intro x cc hx hU
          refine wp_iload dX11_pilesFrom_33 rfl ?_
          refine wp_aload_n dX11_pilesFrom_35 rfl ?_
          refine wp_getC dX11_pilesFrom_36 flX11_49 rfl rfl ?_
          refine wp_iconst dX11_pilesFrom_39 ?_
          refine wp_iload_n dX11_pilesFrom_40 rfl ?_
          refine wp_imul dX11_pilesFrom_41 ?_
          refine wp_iconst dX11_pilesFrom_42 ?_
          refine wp_iadd dX11_pilesFrom_43 ?_
          refine wp_iald (n := 8) dX11_pilesFrom_44 rfl (by omega) (by omega) ?_
          rw [cs.1.2]
          refine wp_icmpgt 77 dX11_pilesFrom_45 (by decide) (by unfold InR; omega) (by unfold InR; omega) (fun c45 => ?_) (fun c45 => ?_)
          · exact absurd c45 (by omega)
          · rw [rgL, List.foldl_cons] at hU
            have tx := mulT_b (t := T sort) (n := 9) (a := x) (by omega) (by omega)
            rw [Int.mul_comm (T sort) x] at tx
            refine wp_iload_n dX11_pilesFrom_48 rfl ?_
            refine wp_aload_n dX11_pilesFrom_49 rfl ?_
            refine wp_iload_n dX11_pilesFrom_50 rfl ?_
            refine wp_iconst dX11_pilesFrom_51 ?_
            refine wp_iadd dX11_pilesFrom_52 ?_
            refine wp_iload_n dX11_pilesFrom_53 rfl ?_
            refine wp_iload dX11_pilesFrom_54 rfl ?_
            refine wp_aload_n dX11_pilesFrom_56 rfl ?_
            refine wp_getC dX11_pilesFrom_57 flX11_49 rfl rfl ?_
            refine wp_iconst dX11_pilesFrom_60 ?_
            refine wp_iload_n dX11_pilesFrom_61 rfl ?_
            refine wp_imul dX11_pilesFrom_62 ?_
            refine wp_iald (n := 8) dX11_pilesFrom_63 rfl (by omega) (by omega) ?_
            rw [cs.1.1]
            refine wp_imul dX11_pilesFrom_64 ?_
            refine wp_iadd dX11_pilesFrom_65 ?_
            refine wp_callVp dX11_pilesFrom_66 mlX11_386 mvX11_pilesFrom (ih (sort + 1) (left + x * T sort) (by omega) (by omega) (by omega)) rfl rfl (by omega) (by decide) rfl rfl rfl (Nat.le_of_ble_eq_true rfl) ?_
            refine wp_iadd dX11_pilesFrom_69 ?_
            refine wp_istore_n dX11_pilesFrom_70 (by decide) ?_
            refine wp_iinc dX11_pilesFrom_71 rfl (by decide) ?_
            refine wp_goto 33 dX11_pilesFrom_74 (by decide) ?_
            refine wp_loc [(0, .ref (adr X 47)), (1, .int (iI sort)), (2, .int (iI left)), (3, .int (iI (cc + pfF T N r (sort + 1) (left + x * T sort)))), (4, .int (iI (x + 1)))] ⟨rfl, rfl, rfl, rfl, rfl, trivial⟩ ?_
            exact ihl (x + 1) _ (by omega) hU
      refine wp_loc [(0, .ref (adr X 47)), (1, .int (iI sort)), (2, .int (iI left)), (3, .int (iI 0)), (4, .int (iI (-N sort)))] ⟨rfl, rfl, rfl, rfl, rfl, trivial⟩ ?_
      exact Lpf (2 * N sort + 1).toNat (-N sort) 0 (by omega) (by rw [hV, pfF])
    · exact absurd c5 (by omega)

set_option maxRecDepth 20000 in
theorem S_X11_piles {X : Cx} {h : Hp} {σ : Sg} (am : AM h σ) (o : SOK σ) {p : Int} (hp : InR p) : Spec X mX11_piles 60 [.ref (adr X 47), .int (iI p)] h (fun rv h' => rv = some (.int (iI (qPiles σ p))) ∧ AM h' σ ∧ sameC h h') := by
  refine spec_wp (Nat.le_of_ble_eq_true rfl) (by decide +kernel) ?_
  refine wp_loc [(0, .ref (adr X 47)), (1, .int (iI p))] ⟨rfl, rfl, trivial⟩ ?_
  refine wp_aload_n dX11_piles_0 rfl ?_
  refine wp_iconst dX11_piles_1 ?_
  refine wp_putI dX11_piles_2 plX11_95 rfl rfl ?_
  have k0 : KM h (sI h 47 0 0) := KM.sI (by unfold SMx; omega)
  have am := am.km k0
  generalize sI h 47 0 0 = h0 at *
  have gk := o.2.2.2.1
  have gb := gk.b
  have gkb := gk.2.1
  have e4 : hI h0 47 24 = gP (sG σ) := am.2.2.2.2.1.1
  have e5 : hI h0 47 26 = gA (sG σ) := am.2.2.2.2.1.2.1
  have e6 : hI h0 47 27 = gK (sG σ) := am.2.2.2.2.1.2.2.1
  have em : GM h0 = gE (sG σ) := am.gm
  have ep : gP (GM h0) = gP (sG σ) := e4
  have vb := gapF_b gk p
  refine wp_aload_n dX11_piles_5 rfl ?_
  refine wp_iload_n dX11_piles_6 rfl ?_
  refine wp_callVp dX11_piles_7 mlX11_290 mvX11_isTurning (S_X11_isTurning (by omega) (by first | assumption | (unfold InR; omega))) rfl rfl (by decide) (by decide) rfl rfl rfl (Nat.le_of_ble_eq_true rfl) ?_
  refine wp_ifeqb 26 dX11_piles_10 (by decide) (fun c10 => ?_) (fun c10 => ?_)
  · refine wp_iconst dX11_piles_26 ?_
    exact wp_iret dX11_piles_27 rfl (⟨vi (by unfold qPiles; rw [if_neg (by omega)]), am, k0.C⟩)
  · refine wp_aload_n dX11_piles_13 rfl ?_
    refine wp_iconst dX11_piles_14 ?_
    refine wp_aload_n dX11_piles_15 rfl ?_
    refine wp_iload_n dX11_piles_16 rfl ?_
    refine wp_callVp dX11_piles_17 mlX11_310 mvX11_gapOf (S_X11_gapOf (am.b2 o (by omega)) (by omega)) rfl rfl (by decide) (by decide) rfl rfl rfl (Nat.le_of_ble_eq_true rfl) ?_
    rw [em]
    rw [show gapF (gE (sG σ)) p = gapF (sG σ) p from rfl]
    refine wp_callVp dX11_piles_20 mlX11_386 mvX11_pilesFrom (S_X11_pilesFrom (am.crd o (by omega)) (gK (sG σ)).toNat 0 (gapF (sG σ) p) (by omega) (by omega) (by omega)) rfl rfl (by omega) (by decide) rfl rfl rfl (Nat.le_of_ble_eq_true rfl) ?_
    refine wp_goto 27 dX11_piles_23 (by decide) ?_
    exact wp_iret dX11_piles_27 rfl (⟨vi (by unfold qPiles; rw [if_pos (by omega)]; exact (rw_pf gk (by omega) _).symm), am, k0.C⟩)

