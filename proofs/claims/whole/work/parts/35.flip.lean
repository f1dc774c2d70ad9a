/-! the class: FLIP -/
def gapL (G : Gdn) (v p : Int) : Int := ggap (gH G) (gP G) (gA G) p - v
def fLn (G : Gdn) (y : Int) : Int := gS G (y / 16) + gS G (y % 4) - gS G (y / 4 % 4) - gS G (6 - y / 16 - y / 4 % 4 - y % 4)
def fCt (G : Gdn) (y : Int) : Int := cntF (stb (gapL G (fLn G y)) (gP G)) (gP G).toNat 0 0
def fOk (y : Int) : Prop := y / 16 ≠ y / 4 % 4 ∧ y / 16 ≠ y % 4 ∧ y / 4 % 4 ≠ y % 4
def fDg (y : Int) : Int := y / 16 * 1000 + y / 4 % 4 * 100 + y % 4 * 10 + (6 - y / 16 - y / 4 % 4 - y % 4)
def flF (G : Gdn) : Nat → Int → Int → Int → Int × Int
  | 0, _, f, m => (f, m)
  | n + 1, y, f, m => if (y / 16 ≠ y / 4 % 4 ∧ y / 16 ≠ y % 4 ∧ y / 4 % 4 ≠ y % 4) ∧ m < fCt G y then flF G n (y + 1) (fDg y) (fCt G y) else flF G n (y + 1) f m
def qFlip (σ : Sg) (w : Int) : Int := if gP (sG σ) = 0 ∨ w < 0 ∨ 1 < w then -1 else sel2 w (flF (sG σ) 64 0 (-1) (-1))
/-- the round holds GAPS with whole legs -/
def WHO (h : Hp) (G : Gdn) : Prop := hI h 42 1 = gP G ∧ ∀ p : Int, 0 ≤ p → p < gP G → hI h 43 p.toNat = ggap (gH G) (gP G) (gA G) p
theorem WHO.rnd {h : Hp} {G : Gdn} (w : WHO h G) (g : GOK G) {v : Int} (hv : -500 ≤ v ∧ v ≤ 500) : RND (sI h 42 2 v) (gapL G v) (gP G) := by
  have gb := g.b
  refine ⟨by rw [hI_sI, if_neg (by decide)]; exact w.1, gb.1, gb.2.1, fun p h0 h1 => ?_⟩
  have b := ggap_b g.h (gP G) (gA G) p
  rw [hI_sI, if_neg (by omega), hI_sI, if_pos ⟨rfl, rfl⟩, w.2 p h0 h1]
  unfold gapL
  omega
theorem WHO.put {h : Hp} {G : Gdn} (w : WHO h G) (v : Int) : WHO (sI h 42 2 v) G := ⟨by rw [hI_sI, if_neg (by decide)]; exact w.1, fun p h0 h1 => by rw [hI_sI, if_neg (by omega)]; exact w.2 p h0 h1⟩

set_option maxRecDepth 20000 in
theorem S_X10_flip {X : Cx} {h : Hp} {σ : Sg} (a : AC h σ) (o : SOK σ) {w : Int} (hw : InR w) : Spec X mX10_flip 30 [.ref (adr X 0), .int (iI w)] h (fun rv h' => rv = some (.int (iI (qFlip σ w))) ∧ AC h' σ ∧ sameM h h') := by
  have g := a.gb o
  have hG := g.1
  have gk := o.2.2.2.1
  have gb := gk.b
  have gkb := gk.2.1
  have e4 : hI h (hR h 0 6) 4 = gP (sG σ) := a.2.2.2.2.1.1
  have e5 : hI h (hR h 0 6) 5 = gA (sG σ) := a.2.2.2.2.1.2.1
  have e6 : hI h (hR h 0 6) 6 = gK (sG σ) := a.2.2.2.2.1.2.2.1
  have he : hI h (hR h 0 6) 4 % 2 = 0 := by omega
  refine spec_wp (Nat.le_of_ble_eq_true rfl) (by decide +kernel) ?_
  refine wp_loc [(0, .ref (adr X 0)), (1, .int (iI w))] ⟨rfl, rfl, trivial⟩ ?_
  refine wp_aload_n dX10_flip_0 rfl ?_
  refine wp_callVp dX10_flip_1 mlX10_148 mvX10_noGarden (S_X10_noGarden g) rfl rfl (by decide) (by decide) rfl rfl rfl (Nat.le_of_ble_eq_true rfl) ?_
  refine wp_ifneb 16 dX10_flip_4 (by decide) (fun c4 => ?_) (fun c4 => ?_)
  · refine wp_iconst dX10_flip_16 ?_
    exact wp_iret dX10_flip_17 rfl (⟨vi (by unfold qFlip; rw [if_pos (by omega)]), a, sameM_rf h⟩)
  · refine wp_iload_n dX10_flip_7 rfl ?_
    refine wp_iflt 16 dX10_flip_8 (by decide) (by first | assumption | (unfold InR; omega)) (fun c8 => ?_) (fun c8 => ?_)
    · refine wp_iconst dX10_flip_16 ?_
      exact wp_iret dX10_flip_17 rfl (⟨vi (by unfold qFlip; rw [if_pos (by omega)]), a, sameM_rf h⟩)
    · refine wp_iload_n dX10_flip_11 rfl ?_
      refine wp_iconst dX10_flip_12 ?_
      refine wp_icmple 18 dX10_flip_13 (by decide) (by first | assumption | (unfold InR; omega)) (by first | assumption | (unfold InR; omega)) (fun c13 => ?_) (fun c13 => ?_)
      · refine wp_aload_n dX10_flip_18 rfl ?_
        refine wp_callV dX10_flip_19 mlX10_188 mvX10_layRound (S_X10_layRound a o (by omega)) rfl rfl (by decide) (by decide) rfl rfl rfl (Nat.le_of_ble_eq_true rfl) ?_
        rintro rv h1 ⟨rfl, a, s1, hr, hln⟩
        have g := a.gb o
        have hG := g.1
        have gk := o.2.2.2.1
        have gb := gk.b
        have gkb := gk.2.1
        have e4 : hI h1 (hR h1 0 6) 4 = gP (sG σ) := a.2.2.2.2.1.1
        have e5 : hI h1 (hR h1 0 6) 5 = gA (sG σ) := a.2.2.2.2.1.2.1
        have e6 : hI h1 (hR h1 0 6) 6 = gK (sG σ) := a.2.2.2.2.1.2.2.1
        have he : hI h1 (hR h1 0 6) 4 % 2 = 0 := by omega
        refine wp_iconst dX10_flip_22 ?_
        refine wp_istore_n dX10_flip_23 (by decide) ?_
        refine wp_iconst dX10_flip_24 ?_
        refine wp_istore_n dX10_flip_25 (by decide) ?_
        refine wp_iconst dX10_flip_26 ?_
        refine wp_istore dX10_flip_27 (by decide) ?_
        obtain ⟨V, hV0⟩ : ∃ V : Int, V = qFlip σ w := ⟨_, rfl⟩
        rw [← hV0]
        unfold qFlip at hV0
        rw [if_neg (by omega)] at hV0
        have wh : WHO h1 (sG σ) := ⟨hr.1, fun p h0 h2 => by have q := (hr.2.2.2 p h0 h2).1; unfold gapF at q; omega⟩
        have L : ∀ (n : Nat) (y f m : Int) (h1 : Hp), (y + n = 64) → (0 ≤ y) → (-1 ≤ m ∧ m ≤ 24 ∧ -1 ≤ f ∧ f ≤ 4000) → (AC h1 σ) → (sameM h h1) → (WHO h1 (sG σ)) → (V = sel2 w (flF (sG σ) n y f m)) → WP X mX10_flip 30 29 [(0, .ref (adr X 0)), (1, .int (iI w)), (2, .int (iI f)), (3, .int (iI m)), (4, .int (iI y))] [] h1 (fun rv h' => rv = some (.int (iI V)) ∧ AC h' σ ∧ sameM h h') := by
          intro n
          induction n with
          | zero =>
            intro y f m h1 hn hy hm a s1 wh hV
            have g := a.gb o
            have hG := g.1
            have gk := o.2.2.2.1
            have gb := gk.b
            have gkb := gk.2.1
            have e4 : hI h1 (hR h1 0 6) 4 = gP (sG σ) := a.2.2.2.2.1.1
            have e5 : hI h1 (hR h1 0 6) 5 = gA (sG σ) := a.2.2.2.2.1.2.1
            have e6 : hI h1 (hR h1 0 6) 6 = gK (sG σ) := a.2.2.2.2.1.2.2.1
            have he : hI h1 (hR h1 0 6) 4 % 2 = 0 := by omega
            refine wp_iload dX10_flip_29 rfl ?_
            refine wp_bipush dX10_flip_31 rfl ?_
            refine wp_icmpge 159 dX10_flip_33 (by decide) (by first | assumption | (unfold InR; omega)) (by first | assumption | (unfold InR; omega)) (fun c33 => ?_) (fun c33 => ?_)
            · refine wp_iload_n dX10_flip_159 rfl ?_
              refine wp_ifne 167 dX10_flip_160 (by decide) (by first | assumption | (unfold InR; omega)) (fun c160 => ?_) (fun c160 => ?_)
              · refine wp_iload_n dX10_flip_167 rfl ?_
                exact wp_iret dX10_flip_168 rfl (⟨vi (by rw [hV, flF, sel2]; first | rw [if_pos (by omega)] | rw [if_neg (by omega)]), a, s1⟩)
              · refine wp_iload_n dX10_flip_163 rfl ?_
                refine wp_goto 168 dX10_flip_164 (by decide) ?_
                exact wp_iret dX10_flip_168 rfl (⟨vi (by rw [hV, flF, sel2]; first | rw [if_pos (by omega)] | rw [if_neg (by omega)]), a, s1⟩)
            · exact absurd c33 (by omega)
          | succ n ih =>
            intro y f m h1 hn hy hm a s1 wh hV
            have g := a.gb o
            have hG := g.1
            have gk := o.2.2.2.1
            have gb := gk.b
            have gkb := gk.2.1
            have e4 : hI h1 (hR h1 0 6) 4 = gP (sG σ) := a.2.2.2.2.1.1
            have e5 : hI h1 (hR h1 0 6) 5 = gA (sG σ) := a.2.2.2.2.1.2.1
            have e6 : hI h1 (hR h1 0 6) 6 = gK (sG σ) := a.2.2.2.2.1.2.2.1
            have he : hI h1 (hR h1 0 6) 4 % 2 = 0 := by omega
            refine wp_iload dX10_flip_29 rfl ?_
            refine wp_bipush dX10_flip_31 rfl ?_
            refine wp_icmpge 159 dX10_flip_33 (by decide) (by first | assumption | (unfold InR; omega)) (by first | assumption | (unfold InR; omega)) (fun c33 => ?_) (fun c33 => ?_)
            · exact absurd c33 (by omega)
            · refine wp_iload dX10_flip_36 rfl ?_
              refine wp_bipush dX10_flip_38 rfl ?_
              refine wp_idivp dX10_flip_40 (by omega) (by omega) (by unfold InR; omega) (by unfold InR; omega) ?_
              refine wp_istore dX10_flip_41 (by decide) ?_
              refine wp_iload dX10_flip_43 rfl ?_
              refine wp_iconst dX10_flip_45 ?_
              refine wp_idivp dX10_flip_46 (by omega) (by omega) (by unfold InR; omega) (by unfold InR; omega) ?_
              refine wp_iconst dX10_flip_47 ?_
              refine wp_iremp dX10_flip_48 (by omega) (by omega) (by unfold InR; omega) (by unfold InR; omega) ?_
              refine wp_istore dX10_flip_49 (by decide) ?_
              refine wp_iload dX10_flip_51 rfl ?_
              refine wp_iconst dX10_flip_53 ?_
              refine wp_iremp dX10_flip_54 (by omega) (by omega) (by unfold InR; omega) (by unfold InR; omega) ?_
              refine wp_istore dX10_flip_55 (by decide) ?_
              refine wp_iload dX10_flip_57 rfl ?_
              refine wp_iload dX10_flip_59 rfl ?_
              refine wp_icmpeq 153 dX10_flip_61 (by decide) (by first | assumption | (unfold InR; omega)) (by first | assumption | (unfold InR; omega)) (fun c61 => ?_) (fun c61 => ?_)
              · refine wp_iinc dX10_flip_153 rfl (by decide) ?_
                refine wp_goto 29 dX10_flip_156 (by decide) ?_
                refine wp_loc [(0, .ref (adr X 0)), (1, .int (iI w)), (2, .int (iI _)), (3, .int (iI _)), (4, .int (iI (y + 1)))] ⟨rfl, rfl, rfl, rfl, rfl, trivial⟩ ?_
                exact ih (y + 1) _ _ _ (by omega) (by omega) (by first | omega | (unfold fDg; omega)) a s1 wh (by rw [hV, flF]; first | (rw [if_pos ⟨⟨by assumption, by assumption, by assumption⟩, by omega⟩]; rfl) | rw [if_neg (fun q => by omega)])
              · refine wp_iload dX10_flip_64 rfl ?_
                refine wp_iload dX10_flip_66 rfl ?_
                refine wp_icmpeq 153 dX10_flip_68 (by decide) (by first | assumption | (unfold InR; omega)) (by first | assumption | (unfold InR; omega)) (fun c68 => ?_) (fun c68 => ?_)
                · refine wp_iinc dX10_flip_153 rfl (by decide) ?_
                  refine wp_goto 29 dX10_flip_156 (by decide) ?_
                  refine wp_loc [(0, .ref (adr X 0)), (1, .int (iI w)), (2, .int (iI _)), (3, .int (iI _)), (4, .int (iI (y + 1)))] ⟨rfl, rfl, rfl, rfl, rfl, trivial⟩ ?_
                  exact ih (y + 1) _ _ _ (by omega) (by omega) (by first | omega | (unfold fDg; omega)) a s1 wh (by rw [hV, flF]; first | (rw [if_pos ⟨⟨by assumption, by assumption, by assumption⟩, by omega⟩]; rfl) | rw [if_neg (fun q => by omega)])
                · refine wp_iload dX10_flip_71 rfl ?_
                  refine wp_iload dX10_flip_73 rfl ?_
                  refine wp_icmpeq 153 dX10_flip_75 (by decide) (by first | assumption | (unfold InR; omega)) (by first | assumption | (unfold InR; omega)) (fun c75 => ?_) (fun c75 => ?_)
                  · refine wp_iinc dX10_flip_153 rfl (by decide) ?_
                    refine wp_goto 29 dX10_flip_156 (by decide) ?_
                    refine wp_loc [(0, .ref (adr X 0)), (1, .int (iI w)), (2, .int (iI _)), (3, .int (iI _)), (4, .int (iI (y + 1)))] ⟨rfl, rfl, rfl, rfl, rfl, trivial⟩ ?_
                    exact ih (y + 1) _ _ _ (by omega) (by omega) (by first | omega | (unfold fDg; omega)) a s1 wh (by rw [hV, flF]; first | (rw [if_pos ⟨⟨by assumption, by assumption, by assumption⟩, by omega⟩]; rfl) | rw [if_neg (fun q => by omega)])
                  · refine wp_bipush dX10_flip_78 rfl ?_
                    refine wp_iload dX10_flip_80 rfl ?_
                    refine wp_isub dX10_flip_82 ?_
                    refine wp_iload dX10_flip_83 rfl ?_
                    refine wp_isub dX10_flip_85 ?_
                    refine wp_iload dX10_flip_86 rfl ?_
                    refine wp_isub dX10_flip_88 ?_
                    refine wp_istore dX10_flip_89 (by decide) ?_
                    refine wp_aload_n dX10_flip_91 rfl ?_
                    refine wp_getC dX10_flip_92 flX10_85 rfl rfl ?_
                    refine wp_aload_n dX10_flip_95 rfl ?_
                    refine wp_getM dX10_flip_96 flX10_46 rfl rfl ?_
                    refine wp_iload dX10_flip_99 rfl ?_
                    refine wp_iload dX10_flip_101 rfl ?_
                    refine wp_iload dX10_flip_103 rfl ?_
                    refine wp_iload dX10_flip_105 rfl ?_
                    refine wp_callVp dX10_flip_107 mlX10_320 mvX3_leanOf (S_X3_leanOf g (by first | assumption | (unfold InR; omega)) (by first | assumption | (unfold InR; omega)) (by first | assumption | (unfold InR; omega)) (by first | assumption | (unfold InR; omega))) rfl rfl (by decide) (by decide) (gs0 hG) rfl rfl (Nat.le_of_ble_eq_true rfl) ?_
                    have eS : shO h1 (hR h1 0 6) = gS (sG σ) := a.2.2.2.2.1.2.2.2.2.2.1
                    rw [eS, show gS (sG σ) (y / 16) + gS (sG σ) (y % 4) - gS (sG σ) (y / 4 % 4) - gS (sG σ) (6 - y / 16 - y / 4 % 4 - y % 4) = fLn (sG σ) y from rfl]
                    have vb : -500 ≤ fLn (sG σ) y ∧ fLn (sG σ) y ≤ 500 := by
                      have q0 := gk.s (y / 16)
                      have q1 := gk.s (y % 4)
                      have q2 := gk.s (y / 4 % 4)
                      have q3 := gk.s (6 - y / 16 - y / 4 % 4 - y % 4)
                      unfold fLn
                      omega
                    refine wp_putI dX10_flip_110 plX10_324 rfl rfl ?_
                    have hr := wh.rnd gk vb
                    have wh := wh.put (fLn (sG σ) y)
                    have of : OffS h1 (sI h1 42 2 (fLn (sG σ) y)) := OffS.sI (Or.inr (by decide))
                    have a := a.off o of
                    have s1 := sameM_tr s1 of.M
                    refine wp_aload_n dX10_flip_113 rfl ?_
                    refine wp_getC dX10_flip_114 flX10_85 rfl rfl ?_
                    refine wp_callVp dX10_flip_117 mlX10_191 mvX6_standCount (S_X6_standCount hr) rfl rfl (by decide) (by decide) rfl rfl rfl (Nat.le_of_ble_eq_true rfl) ?_
                    have cb := cntF_b (stb (gapL (sG σ) (fLn (sG σ) y)) (gP (sG σ))) (gP (sG σ)).toNat 0 0
                    rw [show cntF (stb (gapL (sG σ) (fLn (sG σ) y)) (gP (sG σ))) (gP (sG σ)).toNat 0 0 = fCt (sG σ) y from rfl] at cb ⊢
                    refine wp_istore dX10_flip_120 (by decide) ?_
                    refine wp_iload dX10_flip_122 rfl ?_
                    refine wp_iload_n dX10_flip_124 rfl ?_
                    refine wp_icmple 153 dX10_flip_125 (by decide) (by first | assumption | (unfold InR; omega)) (by first | assumption | (unfold InR; omega)) (fun c125 => ?_) (fun c125 => ?_)
                    · refine wp_iinc dX10_flip_153 rfl (by decide) ?_
                      refine wp_goto 29 dX10_flip_156 (by decide) ?_
                      refine wp_loc [(0, .ref (adr X 0)), (1, .int (iI w)), (2, .int (iI _)), (3, .int (iI _)), (4, .int (iI (y + 1)))] ⟨rfl, rfl, rfl, rfl, rfl, trivial⟩ ?_
                      exact ih (y + 1) _ _ _ (by omega) (by omega) (by first | omega | (unfold fDg; omega)) a s1 wh (by rw [hV, flF]; first | (rw [if_pos ⟨⟨by assumption, by assumption, by assumption⟩, by omega⟩]; rfl) | rw [if_neg (fun q => by omega)])
                    · refine wp_iload dX10_flip_128 rfl ?_
                      refine wp_sipush dX10_flip_130 rfl ?_
                      refine wp_imul dX10_flip_133 ?_
                      refine wp_iload dX10_flip_134 rfl ?_
                      refine wp_bipush dX10_flip_136 rfl ?_
                      refine wp_imul dX10_flip_138 ?_
                      refine wp_iadd dX10_flip_139 ?_
                      refine wp_iload dX10_flip_140 rfl ?_
                      refine wp_bipush dX10_flip_142 rfl ?_
                      refine wp_imul dX10_flip_144 ?_
                      refine wp_iadd dX10_flip_145 ?_
                      refine wp_iload dX10_flip_146 rfl ?_
                      refine wp_iadd dX10_flip_148 ?_
                      refine wp_istore_n dX10_flip_149 (by decide) ?_
                      refine wp_iload dX10_flip_150 rfl ?_
                      refine wp_istore_n dX10_flip_152 (by decide) ?_
                      refine wp_iinc dX10_flip_153 rfl (by decide) ?_
                      refine wp_goto 29 dX10_flip_156 (by decide) ?_
                      refine wp_loc [(0, .ref (adr X 0)), (1, .int (iI w)), (2, .int (iI _)), (3, .int (iI _)), (4, .int (iI (y + 1)))] ⟨rfl, rfl, rfl, rfl, rfl, trivial⟩ ?_
                      exact ih (y + 1) _ _ _ (by omega) (by omega) (by first | omega | (unfold fDg; omega)) a s1 wh (by rw [hV, flF]; first | (rw [if_pos ⟨⟨by assumption, by assumption, by assumption⟩, by omega⟩]; rfl) | rw [if_neg (fun q => by omega)])
        refine wp_loc [(0, .ref (adr X 0)), (1, .int (iI w)), (2, .int (iI (-1))), (3, .int (iI (-1))), (4, .int (iI 0))] ⟨rfl, rfl, rfl, rfl, rfl, trivial⟩ ?_
        exact L 64 0 (-1) (-1) h1 (by omega) (by omega) (by omega) a s1 wh hV0
      · refine wp_iconst dX10_flip_16 ?_
        exact wp_iret dX10_flip_17 rfl (⟨vi (by unfold qFlip; rw [if_pos (by omega)]), a, sameM_rf h⟩)

