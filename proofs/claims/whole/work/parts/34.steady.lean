/-! the class: other ANGLES, other shares of SHORT, the levellest -/
def gapA (G : Gdn) (A p : Int) : Int := ggap (gH G) (gP G) A p - lnF G
def sdF (G : Gdn) : Nat → Int → Int → Int → Int × Int
  | 0, _, f, m => (f, m)
  | n + 1, A, f, m => if m < cntF (stb (gapA G A) (gP G)) (gP G).toNat 0 0 then sdF G n (A + 1) A (cntF (stb (gapA G A) (gP G)) (gP G).toNat 0 0) else sdF G n (A + 1) f m
def qSteady (σ : Sg) (w : Int) : Int := if gP (sG σ) = 0 ∨ w < 0 ∨ 1 < w then -1 else sel2 w (sdF (sG σ) (gP (sG σ) / 2 - 1).toNat 1 (-1) (-1))

set_option maxRecDepth 20000 in
theorem S_X10_steady {X : Cx} {h : Hp} {σ : Sg} (a : AC h σ) (o : SOK σ) {w : Int} (hw : InR w) : Spec X mX10_steady 30 [.ref (adr X 0), .int (iI w)] h (fun rv h' => rv = some (.int (iI (qSteady σ w))) ∧ AC h' σ ∧ sameM h h') := by
  have g := a.gb o
  have hG := g.1
  have gk := o.2.2.2.1
  have gb := gk.b
  have gkb := gk.2.1
  have e4 : hI h (hR h 0 6) 4 = gP (sG σ) := a.2.2.2.2.1.1
  have e5 : hI h (hR h 0 6) 5 = gA (sG σ) := a.2.2.2.2.1.2.1
  have e6 : hI h (hR h 0 6) 6 = gK (sG σ) := a.2.2.2.2.1.2.2.1
  have he : hI h (hR h 0 6) 4 % 2 = 0 := by omega
  refine spec_wp (Nat.le_of_ble_eq_true rfl) (by decide +kernel) ?_
  refine wp_loc [(0, .ref (adr X 0)), (1, .int (iI w))] ⟨rfl, rfl, trivial⟩ ?_
  refine wp_aload_n dX10_steady_0 rfl ?_
  refine wp_callVp dX10_steady_1 mlX10_148 mvX10_noGarden (S_X10_noGarden g) rfl rfl (by decide) (by decide) rfl rfl rfl (Nat.le_of_ble_eq_true rfl) ?_
  refine wp_ifneb 16 dX10_steady_4 (by decide) (fun c4 => ?_) (fun c4 => ?_)
  · refine wp_iconst dX10_steady_16 ?_
    exact wp_iret dX10_steady_17 rfl (⟨vi (by unfold qSteady; rw [if_pos (by omega)]), a, sameM_rf h⟩)
  · refine wp_iload_n dX10_steady_7 rfl ?_
    refine wp_iflt 16 dX10_steady_8 (by decide) (by first | assumption | (unfold InR; omega)) (fun c8 => ?_) (fun c8 => ?_)
    · refine wp_iconst dX10_steady_16 ?_
      exact wp_iret dX10_steady_17 rfl (⟨vi (by unfold qSteady; rw [if_pos (by omega)]), a, sameM_rf h⟩)
    · refine wp_iload_n dX10_steady_11 rfl ?_
      refine wp_iconst dX10_steady_12 ?_
      refine wp_icmple 18 dX10_steady_13 (by decide) (by first | assumption | (unfold InR; omega)) (by first | assumption | (unfold InR; omega)) (fun c13 => ?_) (fun c13 => ?_)
      · refine wp_iconst dX10_steady_18 ?_
        refine wp_istore_n dX10_steady_19 (by decide) ?_
        refine wp_iconst dX10_steady_20 ?_
        refine wp_istore_n dX10_steady_21 (by decide) ?_
        refine wp_iconst dX10_steady_22 ?_
        refine wp_istore dX10_steady_23 (by decide) ?_
        obtain ⟨V, hV0⟩ : ∃ V : Int, V = qSteady σ w := ⟨_, rfl⟩
        rw [← hV0]
        unfold qSteady at hV0
        rw [if_neg (by omega)] at hV0
        have L : ∀ (n : Nat) (A f m : Int) (h1 : Hp), (A + n = gP (sG σ) / 2) → (1 ≤ A) → (-1 ≤ m ∧ m ≤ 24 ∧ -1 ≤ f ∧ f ≤ 24) → (AC h1 σ) → (sameM h h1) → (V = sel2 w (sdF (sG σ) n A f m)) → WP X mX10_steady 30 25 [(0, .ref (adr X 0)), (1, .int (iI w)), (2, .int (iI f)), (3, .int (iI m)), (4, .int (iI A))] [] h1 (fun rv h' => rv = some (.int (iI V)) ∧ AC h' σ ∧ sameM h h') := by
          intro n
          induction n with
          | zero =>
            intro A f m h1 hn hA hm a s1 hV
            have g := a.gb o
            have hG := g.1
            have gk := o.2.2.2.1
            have gb := gk.b
            have gkb := gk.2.1
            have e4 : hI h1 (hR h1 0 6) 4 = gP (sG σ) := a.2.2.2.2.1.1
            have e5 : hI h1 (hR h1 0 6) 5 = gA (sG σ) := a.2.2.2.2.1.2.1
            have e6 : hI h1 (hR h1 0 6) 6 = gK (sG σ) := a.2.2.2.2.1.2.2.1
            have he : hI h1 (hR h1 0 6) 4 % 2 = 0 := by omega
            refine wp_iload dX10_steady_25 rfl ?_
            refine wp_aload_n dX10_steady_27 rfl ?_
            refine wp_getM dX10_steady_28 flX10_46 rfl rfl ?_
            refine wp_getI dX10_steady_31 flX10_137 (gs0 hG) rfl ?_
            refine wp_iconst dX10_steady_34 ?_
            refine wp_idivp dX10_steady_35 (by omega) (by omega) (by unfold InR; omega) (by unfold InR; omega) ?_
            refine wp_icmpge 86 dX10_steady_36 (by decide) (by first | assumption | (unfold InR; omega)) (by first | assumption | (unfold InR; omega)) (fun c36 => ?_) (fun c36 => ?_)
            · refine wp_iload_n dX10_steady_86 rfl ?_
              refine wp_ifne 94 dX10_steady_87 (by decide) (by first | assumption | (unfold InR; omega)) (fun c87 => ?_) (fun c87 => ?_)
              · refine wp_iload_n dX10_steady_94 rfl ?_
                exact wp_iret dX10_steady_95 rfl (⟨vi (by rw [hV, sdF, sel2]; first | rw [if_pos (by omega)] | rw [if_neg (by omega)]), a, s1⟩)
              · refine wp_iload_n dX10_steady_90 rfl ?_
                refine wp_goto 95 dX10_steady_91 (by decide) ?_
                exact wp_iret dX10_steady_95 rfl (⟨vi (by rw [hV, sdF, sel2]; first | rw [if_pos (by omega)] | rw [if_neg (by omega)]), a, s1⟩)
            · exact absurd c36 (by omega)
          | succ n ih =>
            intro A f m h1 hn hA hm a s1 hV
            have g := a.gb o
            have hG := g.1
            have gk := o.2.2.2.1
            have gb := gk.b
            have gkb := gk.2.1
            have e4 : hI h1 (hR h1 0 6) 4 = gP (sG σ) := a.2.2.2.2.1.1
            have e5 : hI h1 (hR h1 0 6) 5 = gA (sG σ) := a.2.2.2.2.1.2.1
            have e6 : hI h1 (hR h1 0 6) 6 = gK (sG σ) := a.2.2.2.2.1.2.2.1
            have he : hI h1 (hR h1 0 6) 4 % 2 = 0 := by omega
            refine wp_iload dX10_steady_25 rfl ?_
            refine wp_aload_n dX10_steady_27 rfl ?_
            refine wp_getM dX10_steady_28 flX10_46 rfl rfl ?_
            refine wp_getI dX10_steady_31 flX10_137 (gs0 hG) rfl ?_
            refine wp_iconst dX10_steady_34 ?_
            refine wp_idivp dX10_steady_35 (by omega) (by omega) (by unfold InR; omega) (by unfold InR; omega) ?_
            refine wp_icmpge 86 dX10_steady_36 (by decide) (by first | assumption | (unfold InR; omega)) (by first | assumption | (unfold InR; omega)) (fun c36 => ?_) (fun c36 => ?_)
            · exact absurd c36 (by omega)
            · refine wp_aload_n dX10_steady_39 rfl ?_
              refine wp_getC dX10_steady_40 flX10_85 rfl rfl ?_
              refine wp_aload_n dX10_steady_43 rfl ?_
              refine wp_getM dX10_steady_44 flX10_46 rfl rfl ?_
              refine wp_aload_n dX10_steady_47 rfl ?_
              refine wp_getM dX10_steady_48 flX10_46 rfl rfl ?_
              refine wp_getC dX10_steady_51 flX10_304 (gs0 hG) rfl ?_
              refine wp_iload dX10_steady_54 rfl ?_
              refine wp_callV dX10_steady_56 mlX10_316 mvX6_lay (S_X6_lay g (gs1 hG) (by rcases hG with q | q <;> omega) (by rcases hG with q | q <;> omega) he (by omega)) rfl rfl (by decide) (by decide) rfl rfl rfl (Nat.le_of_ble_eq_true rfl) ?_
              rintro rv h2 ⟨rfl, rfl⟩
              have r := layK_R g (b := hR h1 0 6 + 1) (A := A) (fun i hi => g.2.2.2.2.2.1 i (by omega)) he (by omega)
              rw [e4] at r
              have hr : RND _ (gapA (sG σ) A) (gP (sG σ)) := r.cg (fun p h0 h2 => by unfold gapA; rw [← a.ggp o (by omega) ⟨h0, h2⟩, a.lean, e4])
              rw [← e4] at hr
              refine wp_aload_n dX10_steady_59 rfl ?_
              refine wp_getC dX10_steady_60 flX10_85 rfl rfl ?_
              refine wp_callVp dX10_steady_63 mlX10_191 mvX6_standCount (S_X6_standCount hr) rfl rfl (by decide) (by decide) rfl rfl rfl (Nat.le_of_ble_eq_true rfl) ?_
              have cb := cntF_b (stb (gapA (sG σ) A) (hI h1 (hR h1 0 6) 4)) (hI h1 (hR h1 0 6) 4).toNat 0 0
              rw [e4] at cb ⊢
              rw [sdF] at hV
              generalize ht : cntF (stb (gapA (sG σ) A) (gP (sG σ))) (gP (sG σ)).toNat 0 0 = t at cb hV ⊢
              refine wp_istore dX10_steady_66 (by decide) ?_
              refine wp_iload dX10_steady_68 rfl ?_
              refine wp_iload_n dX10_steady_70 rfl ?_
              refine wp_icmple 80 dX10_steady_71 (by decide) (by first | assumption | (unfold InR; omega)) (by first | assumption | (unfold InR; omega)) (fun c71 => ?_) (fun c71 => ?_)
              · refine wp_iinc dX10_steady_80 rfl (by decide) ?_
                refine wp_goto 25 dX10_steady_83 (by decide) ?_
                refine wp_loc [(0, .ref (adr X 0)), (1, .int (iI w)), (2, .int (iI _)), (3, .int (iI _)), (4, .int (iI (A + 1)))] ⟨rfl, rfl, rfl, rfl, rfl, trivial⟩ ?_
                exact ih (A + 1) _ _ _ (by omega) (by omega) (by omega) (a.off o layK_off) (sameM_tr s1 layK_off.M) (by rw [hV]; first | rw [if_pos (by omega)] | rw [if_neg (by omega)])
              · refine wp_iload dX10_steady_74 rfl ?_
                refine wp_istore_n dX10_steady_76 (by decide) ?_
                refine wp_iload dX10_steady_77 rfl ?_
                refine wp_istore_n dX10_steady_79 (by decide) ?_
                refine wp_iinc dX10_steady_80 rfl (by decide) ?_
                refine wp_goto 25 dX10_steady_83 (by decide) ?_
                refine wp_loc [(0, .ref (adr X 0)), (1, .int (iI w)), (2, .int (iI _)), (3, .int (iI _)), (4, .int (iI (A + 1)))] ⟨rfl, rfl, rfl, rfl, rfl, trivial⟩ ?_
                exact ih (A + 1) _ _ _ (by omega) (by omega) (by omega) (a.off o layK_off) (sameM_tr s1 layK_off.M) (by rw [hV]; first | rw [if_pos (by omega)] | rw [if_neg (by omega)])
        refine wp_loc [(0, .ref (adr X 0)), (1, .int (iI w)), (2, .int (iI (-1))), (3, .int (iI (-1))), (4, .int (iI 1))] ⟨rfl, rfl, rfl, rfl, rfl, trivial⟩ ?_
        exact L (gP (sG σ) / 2 - 1).toNat 1 (-1) (-1) h (by omega) (by omega) (by omega) a (sameM_rf h) hV0
      · refine wp_iconst dX10_steady_16 ?_
        exact wp_iret dX10_steady_17 rfl (⟨vi (by unfold qSteady; rw [if_pos (by omega)]), a, sameM_rf h⟩)

