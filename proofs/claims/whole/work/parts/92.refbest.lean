/-! the reference: worth, best -/
set_option maxRecDepth 20000 in
theorem S_X11_worthOf {X : Cx} {h : Hp} {σ : Sg} {p : Int} (am : AM h σ) (o : SOK σ) (hp : 0 ≤ p ∧ p < gP (sG σ)) : Spec X mX11_worthOf 33 [.ref (adr X 47), .int (iI p)] h (fun rv h' => rv = some (.int (iI (wthF σ p))) ∧ KM h h') := by
  have gk := o.2.2.2.1
  have gb := gk.b
  have em : GM h = gE (sG σ) := am.gm
  have ep : gP (GM h) = gP (sG σ) := by rw [em]; rfl
  have gr : InR (gapF (gE (sG σ)) p) := by have := gapF_b gk p; show InR (gapF (sG σ) p); unfold InR; omega
  have db := o.2.2.1
  have wl := o.2.1.1
  refine spec_wp (Nat.le_of_ble_eq_true rfl) (by decide +kernel) ?_
  refine wp_loc [(0, .ref (adr X 47)), (1, .int (iI p))] ⟨rfl, rfl, trivial⟩ ?_
  refine wp_aload_n dX11_worthOf_0 rfl ?_
  refine wp_getI dX11_worthOf_1 flX11_55 rfl rfl ?_
  rw [am.2.2.1]
  refine wp_iconst dX11_worthOf_4 ?_
  refine wp_icmpne 17 dX11_worthOf_5 (by decide) (by first | assumption | (unfold InR; omega)) (by first | assumption | (unfold InR; omega)) (fun c5 => ?_) (fun c5 => ?_)
  · refine wp_aload_n dX11_worthOf_17 rfl ?_
    refine wp_getC dX11_worthOf_18 flX11_20 rfl rfl ?_
    refine wp_bipush dX11_worthOf_21 rfl ?_
    refine wp_aload_n dX11_worthOf_23 rfl ?_
    refine wp_iload_n dX11_worthOf_24 rfl ?_
    refine wp_callVp dX11_worthOf_25 mlX11_310 mvX11_gapOf (S_X11_gapOf (am.b2 o (by omega)) (by omega)) rfl rfl (by decide) (by decide) rfl rfl rfl (Nat.le_of_ble_eq_true rfl) ?_
    rw [em]
    refine wp_iast (n := 128) dX11_worthOf_28 rfl (by decide) (by decide) ?_
    obtain ⟨h1, eh1⟩ : ∃ g, g = sI h 51 (103 : Int).toNat (gapF (gE (sG σ)) p) := ⟨_, rfl⟩
    rw [← eh1]
    have kh1 : KM h h1 := by rw [eh1]; exact KM.sI (by unfold SMx; omega)
    have ah1 := am.km kh1
    have emh1 : GM h1 = gE (sG σ) := ah1.gm
    refine wp_aload_n dX11_worthOf_29 rfl ?_
    refine wp_getC dX11_worthOf_30 flX11_20 rfl rfl ?_
    refine wp_bipush dX11_worthOf_33 rfl ?_
    refine wp_iload_n dX11_worthOf_35 rfl ?_
    refine wp_iast (n := 128) dX11_worthOf_36 rfl (by decide) (by decide) ?_
    obtain ⟨h2, eh2⟩ : ∃ g, g = sI h1 51 (112 : Int).toNat (p) := ⟨_, rfl⟩
    rw [← eh2]
    have kh2 : KM h h2 := kh1.tr (by rw [eh2]; exact KM.sI (by unfold SMx; omega))
    have ah2 := am.km kh2
    have emh2 : GM h2 = gE (sG σ) := ah2.gm
    refine wp_aload_n dX11_worthOf_37 rfl ?_
    refine wp_getC dX11_worthOf_38 flX11_20 rfl rfl ?_
    refine wp_bipush dX11_worthOf_41 rfl ?_
    refine wp_aload_n dX11_worthOf_43 rfl ?_
    refine wp_iload_n dX11_worthOf_44 rfl ?_
    refine wp_callVp dX11_worthOf_45 mlX11_314 mvX11_tiltOf (S_X11_tiltOf (ah2.b2 o (by omega)) (by rw [emh2]; exact hp)) rfl rfl (by decide) (by decide) rfl rfl rfl (Nat.le_of_ble_eq_true rfl) ?_
    rw [emh2]
    refine wp_iast (n := 128) dX11_worthOf_48 rfl (by decide) (by decide) ?_
    obtain ⟨h3, eh3⟩ : ∃ g, g = sI h2 51 (116 : Int).toNat (tltF (gE (sG σ)) p) := ⟨_, rfl⟩
    rw [← eh3]
    have kh3 : KM h h3 := kh2.tr (by rw [eh3]; exact KM.sI (by unfold SMx; omega))
    have ah3 := am.km kh3
    have emh3 : GM h3 = gE (sG σ) := ah3.gm
    refine wp_aload_n dX11_worthOf_49 rfl ?_
    refine wp_getC dX11_worthOf_50 flX11_20 rfl rfl ?_
    refine wp_bipush dX11_worthOf_53 rfl ?_
    refine wp_aload_n dX11_worthOf_55 rfl ?_
    refine wp_iconst dX11_worthOf_56 ?_
    refine wp_iload_n dX11_worthOf_57 rfl ?_
    refine wp_callVp dX11_worthOf_58 mlX11_299 mvX11_reach (S_X11_reach (l := 0) (ah3.b2 o (by omega)) (by rw [emh3]; exact hp) (by omega)) rfl rfl (by decide) (by decide) rfl rfl rfl (Nat.le_of_ble_eq_true rfl) ?_
    refine wp_aload_n dX11_worthOf_61 rfl ?_
    refine wp_iconst dX11_worthOf_62 ?_
    refine wp_iload_n dX11_worthOf_63 rfl ?_
    refine wp_callVp dX11_worthOf_64 mlX11_299 mvX11_reach (S_X11_reach (l := 1) (ah3.b2 o (by omega)) (by rw [emh3]; exact hp) (by omega)) rfl rfl (by decide) (by decide) rfl rfl rfl (Nat.le_of_ble_eq_true rfl) ?_
    refine wp_iadd dX11_worthOf_67 ?_
    refine wp_aload_n dX11_worthOf_68 rfl ?_
    refine wp_iconst dX11_worthOf_69 ?_
    refine wp_iload_n dX11_worthOf_70 rfl ?_
    refine wp_callVp dX11_worthOf_71 mlX11_299 mvX11_reach (S_X11_reach (l := 2) (ah3.b2 o (by omega)) (by rw [emh3]; exact hp) (by omega)) rfl rfl (by decide) (by decide) rfl rfl rfl (Nat.le_of_ble_eq_true rfl) ?_
    refine wp_iadd dX11_worthOf_74 ?_
    refine wp_aload_n dX11_worthOf_75 rfl ?_
    refine wp_iconst dX11_worthOf_76 ?_
    refine wp_iload_n dX11_worthOf_77 rfl ?_
    refine wp_callVp dX11_worthOf_78 mlX11_299 mvX11_reach (S_X11_reach (l := 3) (ah3.b2 o (by omega)) (by rw [emh3]; exact hp) (by omega)) rfl rfl (by decide) (by decide) rfl rfl rfl (Nat.le_of_ble_eq_true rfl) ?_
    refine wp_iadd dX11_worthOf_81 ?_
    rw [emh3]
    refine wp_iast (n := 128) dX11_worthOf_82 rfl (by decide) (by decide) ?_
    obtain ⟨h4, eh4⟩ : ∃ g, g = sI h3 51 (115 : Int).toNat (rchF (gE (sG σ)) p 0 + rchF (gE (sG σ)) p 1 + rchF (gE (sG σ)) p 2 + rchF (gE (sG σ)) p 3) := ⟨_, rfl⟩
    rw [← eh4]
    have kh4 : KM h h4 := kh3.tr (by rw [eh4]; exact KM.sI (by unfold SMx; omega))
    have ah4 := am.km kh4
    have emh4 : GM h4 = gE (sG σ) := ah4.gm
    refine wp_aload_n dX11_worthOf_83 rfl ?_
    refine wp_getC dX11_worthOf_84 flX11_20 rfl rfl ?_
    refine wp_bipush dX11_worthOf_87 rfl ?_
    refine wp_aload_n dX11_worthOf_89 rfl ?_
    refine wp_getI dX11_worthOf_90 flX11_272 rfl rfl ?_
    rw [ah4.2.2.2.2.1.1]
    refine wp_iast (n := 128) dX11_worthOf_93 rfl (by decide) (by decide) ?_
    obtain ⟨h5, eh5⟩ : ∃ g, g = sI h4 51 (110 : Int).toNat (gP (sG σ)) := ⟨_, rfl⟩
    rw [← eh5]
    have kh5 : KM h h5 := kh4.tr (by rw [eh5]; exact KM.sI (by unfold SMx; omega))
    have ah5 := am.km kh5
    have emh5 : GM h5 = gE (sG σ) := ah5.gm
    have lt5 : LTm h5 (roG (sG σ) p) := by
      intro x hx
      refine ⟨?_, roG_R gk hp x⟩
      rw [eh5, eh4, eh3, eh2, eh1]
      rcases hx with rfl | rfl | rfl | rfl | rfl <;> rfl
    refine wp_aload_n dX11_worthOf_94 rfl ?_
    refine wp_aload_n dX11_worthOf_95 rfl ?_
    refine wp_getC dX11_worthOf_96 flX11_13 rfl rfl ?_
    refine wp_sipush dX11_worthOf_99 rfl ?_
    refine wp_aload_n dX11_worthOf_102 rfl ?_
    refine wp_getI dX11_worthOf_103 flX11_55 rfl rfl ?_
    rw [ah5.2.2.1]
    refine wp_imul dX11_worthOf_106 ?_
    refine wp_aload_n dX11_worthOf_107 rfl ?_
    refine wp_getC dX11_worthOf_108 flX11_16 rfl rfl ?_
    refine wp_aload_n dX11_worthOf_111 rfl ?_
    refine wp_getI dX11_worthOf_112 flX11_55 rfl rfl ?_
    rw [ah5.2.2.1]
    refine wp_iald (n := 4) dX11_worthOf_115 rfl (by omega) (by omega) ?_
    obtain ⟨ht, tk, q0, hq0⟩ := hldT_at o (by omega)
    rw [(ah5.2.1.2 _ _ ht).1, show 160 * sD σ = ((160 * (sD σ).toNat : Nat) : Int) by omega]
    refine wp_callV dX11_worthOf_116 mlX11_264 mvX11_goThrough (S_X11_goThrough (ρ := roG (sG σ) p) tk (Or.inr ⟨rfl, by omega⟩) (ah5.2.1.2 _ _ ht).2 lt5) rfl rfl (by decide) (by decide) rfl rfl rfl (Nat.le_of_ble_eq_true rfl) ?_
    rintro rv h6 ⟨rfl, q1, q2, k6⟩
    refine wp_aload_n dX11_worthOf_119 rfl ?_
    refine wp_getI dX11_worthOf_120 flX11_206 rfl rfl ?_
    rw [q2 _ hq0]
    exact wp_iret dX11_worthOf_123 rfl (⟨vi (by unfold wthF; rw [if_neg (by omega)]), kh5.tr k6⟩)
  · refine wp_aload_n dX11_worthOf_8 rfl ?_
    refine wp_iload_n dX11_worthOf_9 rfl ?_
    refine wp_callVp dX11_worthOf_10 mlX11_310 mvX11_gapOf (S_X11_gapOf (am.b2 o (by omega)) (by omega)) rfl rfl (by decide) (by decide) rfl rfl rfl (Nat.le_of_ble_eq_true rfl) ?_
    refine wp_callSp dX11_worthOf_13 mlX11_305 msJ9_abs_0f7a4 (S_J9_abs_0f7a4 (by rw [em]; exact gr)) rfl rfl (by decide) (by decide) (Nat.le_of_ble_eq_true rfl) ?_
    exact wp_iret dX11_worthOf_16 rfl (⟨vi (by rw [em]; unfold wthF; rw [if_pos (by omega)]; rfl), KM.rf h⟩)

set_option maxRecDepth 20000 in
theorem S_X11_best {X : Cx} {h : Hp} {σ : Sg} (am : AM h σ) (o : SOK σ) {w : Int} (hw : InR w) : Spec X mX11_best 60 [.ref (adr X 47), .int (iI w)] h (fun rv h' => rv = some (.int (iI (qBest σ w))) ∧ AM h' σ ∧ sameC h h') := by
  refine spec_wp (Nat.le_of_ble_eq_true rfl) (by decide +kernel) ?_
  refine wp_loc [(0, .ref (adr X 47)), (1, .int (iI w))] ⟨rfl, rfl, trivial⟩ ?_
  refine wp_aload_n dX11_best_0 rfl ?_
  refine wp_iconst dX11_best_1 ?_
  refine wp_putI dX11_best_2 plX11_95 rfl rfl ?_
  have k0 : KM h (sI h 47 0 0) := KM.sI (by unfold SMx; omega)
  have am := am.km k0
  generalize sI h 47 0 0 = h0 at *
  have gk := o.2.2.2.1
  have gb := gk.b
  have gkb := gk.2.1
  have e4 : hI h0 47 24 = gP (sG σ) := am.2.2.2.2.1.1
  have e5 : hI h0 47 26 = gA (sG σ) := am.2.2.2.2.1.2.1
  have e6 : hI h0 47 27 = gK (sG σ) := am.2.2.2.2.1.2.2.1
  have em : GM h0 = gE (sG σ) := am.gm
  have ep : gP (GM h0) = gP (sG σ) := e4
  refine wp_aload_n dX11_best_5 rfl ?_
  refine wp_getI dX11_best_6 flX11_272 rfl rfl ?_
  rw [e4]
  refine wp_ifeq 22 dX11_best_9 (by decide) (by first | assumption | (unfold InR; omega)) (fun c9 => ?_) (fun c9 => ?_)
  · refine wp_ldcw (z := -1000000) dX11_best_22 kcX11_313 ?_
    exact wp_iret dX11_best_25 rfl (⟨vi (by unfold qBest; rw [if_neg (by omega)]), am, k0.C⟩)
  · refine wp_iload_n dX11_best_12 rfl ?_
    refine wp_i2lI dX11_best_13 (by first | assumption | (unfold InR; omega)) ?_
    refine wp_lconst (v := 0) dX11_best_14 rfl ?_
    refine wp_lconst (v := 1) dX11_best_15 rfl ?_
    refine wp_callSp dX11_best_16 mlX11_219 msX11_isIn (S_X11_isIn (a := w) (b := 0) (c := 1) (by first | (exact InR.L (by assumption)) | (unfold InL; omega)) (by unfold InL; omega) (by unfold InL; omega)) rfl rfl (by decide) (by decide) (Nat.le_of_ble_eq_true rfl) ?_
    refine wp_ifneb 26 dX11_best_19 (by decide) (fun c19 => ?_) (fun c19 => ?_)
    · refine wp_iconst dX11_best_26 ?_
      refine wp_istore_n dX11_best_27 (by decide) ?_
      refine wp_iconst dX11_best_28 ?_
      refine wp_istore_n dX11_best_29 (by decide) ?_
      refine wp_iconst dX11_best_30 ?_
      refine wp_istore dX11_best_31 (by decide) ?_
      have hP : 4 ≤ gP (sG σ) := by have := gk.1; omega
      obtain ⟨R, hRR⟩ : ∃ R, R = bstF (wthF σ) (gP (sG σ) - 1).toNat 1 0 (wthF σ 0) := ⟨_, rfl⟩
      have L : ∀ (n : Nat) (p f l : Int) (h1 : Hp), (p + n = gP (sG σ) ∧ 1 ≤ p) → (0 ≤ f ∧ InR f ∧ InR l) → (KM h h1) → (AM h1 σ) → (bstF (wthF σ) n p f l = R) → WP X mX11_best 60 33 [(0, .ref (adr X 47)), (1, .int (iI w)), (2, .int (iI f)), (3, .int (iI l)), (4, .int (iI p))] [] h1 (fun rv h' => rv = some (.int (iI (qBest σ w))) ∧ AM h' σ ∧ sameC h h') := by
        intro n
        induction n with
        | zero =>
          intro p f l h1 hn hfl km a1 hV
          have e41 : hI h1 47 24 = gP (sG σ) := a1.2.2.2.2.1.1
          refine wp_iload dX11_best_33 rfl ?_
          refine wp_aload_n dX11_best_35 rfl ?_
          refine wp_getI dX11_best_36 flX11_272 rfl rfl ?_
          rw [e41]
          refine wp_icmpge 76 dX11_best_39 (by decide) (by first | assumption | (unfold InR; omega)) (by first | assumption | (unfold InR; omega)) (fun c39 => ?_) (fun c39 => ?_)
          · refine wp_iload_n dX11_best_76 rfl ?_
            refine wp_ifne 84 dX11_best_77 (by decide) (by first | assumption | (unfold InR; omega)) (fun c77 => ?_) (fun c77 => ?_)
            · refine wp_iload_n dX11_best_84 rfl ?_
              exact wp_iret dX11_best_85 rfl (by
        have hV : (f, l) = R := hV
        exact ⟨vi (by unfold qBest; rw [if_pos (by omega), if_neg c77, ← hRR, ← hV]), a1, km.C⟩)
            · refine wp_iload_n dX11_best_80 rfl ?_
              refine wp_goto 85 dX11_best_81 (by decide) ?_
              exact wp_iret dX11_best_85 rfl (by
        have hV : (f, l) = R := hV
        exact ⟨vi (by unfold qBest; rw [if_pos (by omega), if_pos c77, ← hRR, ← hV]), a1, km.C⟩)
          · exact absurd c39 (by omega)
        | succ n ih =>
          intro p f l h1 hn hfl km a1 hV
          have e41 : hI h1 47 24 = gP (sG σ) := a1.2.2.2.2.1.1
          refine wp_iload dX11_best_33 rfl ?_
          refine wp_aload_n dX11_best_35 rfl ?_
          refine wp_getI dX11_best_36 flX11_272 rfl rfl ?_
          rw [e41]
          refine wp_icmpge 76 dX11_best_39 (by decide) (by unfold InR; omega) (by unfold InR; omega) (fun c39 => ?_) (fun c39 => ?_)
          · exact absurd c39 (by omega)
          · refine wp_aload_n dX11_best_42 rfl ?_
            refine wp_iload dX11_best_43 rfl ?_
            have wr := wthF_R o (p := p) (by omega)
            refine wp_callV dX11_best_45 mlX11_346 mvX11_worthOf (S_X11_worthOf (p := p) a1 o (by omega)) rfl rfl (by decide) (by decide) rfl rfl rfl (Nat.le_of_ble_eq_true rfl) ?_
            rintro rv h2 ⟨rfl, km2⟩
            have a2 := a1.km km2
            refine wp_istore dX11_best_48 (by decide) ?_
            rw [bstF] at hV
            refine wp_iload_n dX11_best_50 rfl ?_
            refine wp_iconst dX11_best_51 ?_
            refine wp_icmpeq 64 dX11_best_52 (by decide) hfl.2.1 (by unfold InR; omega) (fun c52 => ?_) (fun c52 => ?_)
            · exact absurd c52 (by omega)
            · refine wp_iload dX11_best_55 rfl ?_
              refine wp_iload_n dX11_best_57 rfl ?_
              refine wp_icmplt 64 dX11_best_58 (by decide) wr hfl.2.2 (fun c58 => ?_) (fun c58 => ?_)
              · refine wp_iload dX11_best_64 rfl ?_
                refine wp_istore_n dX11_best_66 (by decide) ?_
                refine wp_iload dX11_best_67 rfl ?_
                refine wp_istore_n dX11_best_69 (by decide) ?_
                refine wp_iinc dX11_best_70 rfl (by decide) ?_
                refine wp_goto 33 dX11_best_73 (by decide) ?_
                rw [if_pos (by omega)] at hV
                refine wp_loc [(0, .ref (adr X 47)), (1, .int (iI w)), (2, .int (iI p)), (3, .int (iI (wthF σ p))), (4, .int (iI (p + 1)))] ⟨rfl, rfl, rfl, rfl, rfl, trivial⟩ ?_
                exact ih (p + 1) p (wthF σ p) _ (by omega) ⟨by omega, by unfold InR; omega, wr⟩ (km.tr km2) a2 hV
              · refine wp_goto 70 dX11_best_61 (by decide) ?_
                refine wp_iinc dX11_best_70 rfl (by decide) ?_
                refine wp_goto 33 dX11_best_73 (by decide) ?_
                rw [if_neg (by omega)] at hV
                refine wp_loc [(0, .ref (adr X 47)), (1, .int (iI w)), (2, .int (iI f)), (3, .int (iI l)), (4, .int (iI (p + 1)))] ⟨rfl, rfl, rfl, rfl, rfl, trivial⟩ ?_
                exact ih (p + 1) f l _ (by omega) hfl (km.tr km2) a2 hV
      refine wp_iload dX11_best_33 rfl ?_
      refine wp_aload_n dX11_best_35 rfl ?_
      refine wp_getI dX11_best_36 flX11_272 rfl rfl ?_
      rw [e4]
      refine wp_icmpge 76 dX11_best_39 (by decide) (by unfold InR; omega) (by unfold InR; omega) (fun c39 => ?_) (fun c39 => ?_)
      · exact absurd c39 (by omega)
      · refine wp_aload_n dX11_best_42 rfl ?_
        refine wp_iload dX11_best_43 rfl ?_
        refine wp_callV dX11_best_45 mlX11_346 mvX11_worthOf (S_X11_worthOf (p := 0) am o (by omega)) rfl rfl (by decide) (by decide) rfl rfl rfl (Nat.le_of_ble_eq_true rfl) ?_
        rintro rv h2 ⟨rfl, km2⟩
        have a2 := am.km km2
        refine wp_istore dX11_best_48 (by decide) ?_
        refine wp_iload_n dX11_best_50 rfl ?_
        refine wp_iconst dX11_best_51 ?_
        refine wp_icmpeq 64 dX11_best_52 (by decide) (by unfold InR; omega) (by unfold InR; omega) (fun c52 => ?_) (fun c52 => ?_)
        · refine wp_iload dX11_best_64 rfl ?_
          refine wp_istore_n dX11_best_66 (by decide) ?_
          refine wp_iload dX11_best_67 rfl ?_
          refine wp_istore_n dX11_best_69 (by decide) ?_
          refine wp_iinc dX11_best_70 rfl (by decide) ?_
          refine wp_goto 33 dX11_best_73 (by decide) ?_
          refine wp_loc [(0, .ref (adr X 47)), (1, .int (iI w)), (2, .int (iI 0)), (3, .int (iI (wthF σ 0))), (4, .int (iI 1))] ⟨rfl, rfl, rfl, rfl, rfl, trivial⟩ ?_
          exact L (gP (sG σ) - 1).toNat 1 0 (wthF σ 0) _ (by omega) ⟨by omega, inR_0, wthF_R o (by omega)⟩ (k0.tr km2) a2 hRR.symm
        · exact absurd rfl c52
    · refine wp_ldcw (z := -1000000) dX11_best_22 kcX11_313 ?_
      exact wp_iret dX11_best_25 rfl (⟨vi (by unfold qBest; rw [if_neg (by omega)]), am, k0.C⟩)

