/-! ROCKED: heights, angles; one more -/
set_option maxRecDepth 20000 in
theorem S_X10_heights {X : Cx} {h : Hp} {σ : Sg} (a : AC h σ) (o : SOK σ) {p w : Int} (hp : InR p) (hw : InR w) : Spec X mX10_heights 30 [.ref (adr X 0), .int (iI p), .int (iI w)] h (fun rv h' => rv = some (.int (iI (qHeights σ p w))) ∧ AC h' σ ∧ sameM h h') := by
  have g := a.gb o
  have hG := g.1
  have gk := o.2.2.2.1
  have gb := gk.b
  have gkb := gk.2.1
  have e4 : hI h (hR h 0 6) 4 = gP (sG σ) := a.2.2.2.2.1.1
  have e5 : hI h (hR h 0 6) 5 = gA (sG σ) := a.2.2.2.2.1.2.1
  have e6 : hI h (hR h 0 6) 6 = gK (sG σ) := a.2.2.2.2.1.2.2.1
  have he : hI h (hR h 0 6) 4 % 2 = 0 := by omega
  refine spec_wp (Nat.le_of_ble_eq_true rfl) (by decide +kernel) ?_
  refine wp_loc [(0, .ref (adr X 0)), (1, .int (iI p)), (2, .int (iI w))] ⟨rfl, rfl, rfl, trivial⟩ ?_
  refine wp_aload_n dX10_heights_0 rfl ?_
  refine wp_getM dX10_heights_1 flX10_46 rfl rfl ?_
  refine wp_iload_n dX10_heights_4 rfl ?_
  refine wp_callVp dX10_heights_5 mlX10_152 mvX3_has (S_X3_has g (by first | assumption | (unfold InR; omega))) rfl rfl (by decide) (by decide) (gs0 hG) rfl rfl (Nat.le_of_ble_eq_true rfl) ?_
  refine wp_ifeqb 20 dX10_heights_8 (by decide) (fun c8 => ?_) (fun c8 => ?_)
  · refine wp_ldc (z := -1000000) dX10_heights_20 kcX10_181 ?_
    exact wp_iret dX10_heights_22 rfl (⟨vi (by unfold qHeights; rw [if_neg (by omega)]), a, sameM_rf h⟩)
  · refine wp_iload_n dX10_heights_11 rfl ?_
    refine wp_iflt 20 dX10_heights_12 (by decide) (by first | assumption | (unfold InR; omega)) (fun c12 => ?_) (fun c12 => ?_)
    · refine wp_ldc (z := -1000000) dX10_heights_20 kcX10_181 ?_
      exact wp_iret dX10_heights_22 rfl (⟨vi (by unfold qHeights; rw [if_neg (by omega)]), a, sameM_rf h⟩)
    · refine wp_iload_n dX10_heights_15 rfl ?_
      refine wp_iconst dX10_heights_16 ?_
      refine wp_icmple 23 dX10_heights_17 (by decide) (by first | assumption | (unfold InR; omega)) (by first | assumption | (unfold InR; omega)) (fun c17 => ?_) (fun c17 => ?_)
      · refine wp_aload_n dX10_heights_23 rfl ?_
        refine wp_getC dX10_heights_24 flX10_56 rfl rfl ?_
        refine wp_callV dX10_heights_27 mlX10_279 mvX5_startRange (S_X5_startRange) rfl rfl (by decide) (by decide) rfl rfl rfl (Nat.le_of_ble_eq_true rfl) ?_
        rintro rv h1 ⟨rfl, rk, r3, r4⟩
        have a := a.rk o rk
        have s1 := rk.M
        refine wp_iconst dX10_heights_30 ?_
        refine wp_istore_n dX10_heights_31 (by decide) ?_
        obtain ⟨V, hV0⟩ : ∃ V : Int, V = qHeights σ p w := ⟨_, rfl⟩
        rw [← hV0]
        unfold qHeights at hV0
        rw [if_pos (by omega)] at hV0
        have L : ∀ (n : Nat) (i : Nat) (h1 : Hp), ((i : Int) + n = (sR_ σ).length) → (AC h1 σ) → (sameM h h1) → (-3000 ≤ hI h1 30 3 ∧ hI h1 30 3 ≤ 3000 ∧ -3000 ≤ hI h1 30 4 ∧ hI h1 30 4 ≤ 3000) → (V = rngA w (((sR_ σ).drop i).foldl (fun r q => htF (sG σ) p q r) (hI h1 30 3, hI h1 30 4))) → WP X mX10_heights 30 32 [(0, .ref (adr X 0)), (1, .int (iI p)), (2, .int (iI w)), (3, .int (iI (i : Nat)))] [] h1 (fun rv h' => rv = some (.int (iI V)) ∧ AC h' σ ∧ sameM h h') := by
          intro n
          induction n with
          | zero =>
            intro i h1 hn a s1 hrb hV
            have g := a.gb o
            have hG := g.1
            have gk := o.2.2.2.1
            have gb := gk.b
            have gkb := gk.2.1
            have e4 : hI h1 (hR h1 0 6) 4 = gP (sG σ) := a.2.2.2.2.1.1
            have e5 : hI h1 (hR h1 0 6) 5 = gA (sG σ) := a.2.2.2.2.1.2.1
            have e6 : hI h1 (hR h1 0 6) 6 = gK (sG σ) := a.2.2.2.2.1.2.2.1
            have he : hI h1 (hR h1 0 6) 4 % 2 = 0 := by omega
            have kl := o.2.2.2.2.1.1
            have k1 := a.2.2.2.2.2.1.1
            refine wp_iload_n dX10_heights_32 rfl ?_
            refine wp_aload_n dX10_heights_33 rfl ?_
            refine wp_getC dX10_heights_34 flX10_56 rfl rfl ?_
            refine wp_getI dX10_heights_37 flX10_128 rfl rfl ?_
            refine wp_icmpge 109 dX10_heights_40 (by decide) (by unfold InR; omega) (by unfold InR; omega) (fun c40 => ?_) (fun c40 => ?_)
            · refine wp_aload_n dX10_heights_109 rfl ?_
              refine wp_getC dX10_heights_110 flX10_56 rfl rfl ?_
              refine wp_iload_n dX10_heights_113 rfl ?_
              refine wp_callVp dX10_heights_114 mlX10_292 mvX5_rangeAnswer (S_X5_rangeAnswer (by omega) (by omega)) rfl rfl (by decide) (by decide) rfl rfl rfl (Nat.le_of_ble_eq_true rfl) ?_
              exact wp_iret dX10_heights_117 rfl (⟨vi (by rw [hV, List.drop_eq_nil_of_le (by omega)]; rfl), a, s1⟩)
            · exact absurd c40 (by omega)
          | succ n ih =>
            intro i h1 hn a s1 hrb hV
            have g := a.gb o
            have hG := g.1
            have gk := o.2.2.2.1
            have gb := gk.b
            have gkb := gk.2.1
            have e4 : hI h1 (hR h1 0 6) 4 = gP (sG σ) := a.2.2.2.2.1.1
            have e5 : hI h1 (hR h1 0 6) 5 = gA (sG σ) := a.2.2.2.2.1.2.1
            have e6 : hI h1 (hR h1 0 6) 6 = gK (sG σ) := a.2.2.2.2.1.2.2.1
            have he : hI h1 (hR h1 0 6) 4 % 2 = 0 := by omega
            have kl := o.2.2.2.2.1.1
            have k1 := a.2.2.2.2.2.1.1
            refine wp_iload_n dX10_heights_32 rfl ?_
            refine wp_aload_n dX10_heights_33 rfl ?_
            refine wp_getC dX10_heights_34 flX10_56 rfl rfl ?_
            refine wp_getI dX10_heights_37 flX10_128 rfl rfl ?_
            refine wp_icmpge 109 dX10_heights_40 (by decide) (by unfold InR; omega) (by unfold InR; omega) (fun c40 => ?_) (fun c40 => ?_)
            · exact absurd c40 (by omega)
            · have ii : ((i : Nat) : Int).toNat = i := by omega
              obtain ⟨q, q1, q2, q3, q4, q5, q6⟩ := a.rki o (i := i) (by omega)
              have vb := gapF_b gk q.1
              have hbp := gk.h p
              have eH : htO h1 (hR h1 0 6) = gH (sG σ) := a.2.2.2.2.1.2.2.2.2.1
              have sb := slp_b (gP (sG σ)) (gA (sG σ)) q.1 p
              have sm : -99 ≤ slp (gP (sG σ)) (gA (sG σ)) q.1 p * gH (sG σ) p ∧ slp (gP (sG σ)) (gA (sG σ)) q.1 p * gH (sG σ) p ≤ 99 := by
                rcases (show slp (gP (sG σ)) (gA (sG σ)) q.1 p = -1 ∨ slp (gP (sG σ)) (gA (sG σ)) q.1 p = 0 ∨ slp (gP (sG σ)) (gA (sG σ)) q.1 p = 1 by omega) with z | z | z <;> rw [z] <;> omega
              refine wp_aload_n dX10_heights_43 rfl ?_
              refine wp_getC dX10_heights_44 flX10_56 rfl rfl ?_
              refine wp_iload_n dX10_heights_47 rfl ?_
              refine wp_callVp dX10_heights_48 mlX10_282 mvX5_turningOf (S_X5_turningOf (by omega) (by omega)) rfl rfl (by decide) (by decide) rfl rfl rfl (Nat.le_of_ble_eq_true rfl) ?_
              rw [ii, q3]
              refine wp_istore dX10_heights_51 (by decide) ?_
              refine wp_aload_n dX10_heights_53 rfl ?_
              refine wp_getM dX10_heights_54 flX10_46 rfl rfl ?_
              refine wp_iload dX10_heights_57 rfl ?_
              refine wp_iload_n dX10_heights_59 rfl ?_
              refine wp_callVp dX10_heights_60 mlX10_295 mvX3_slope (S_X3_slope g (by omega) (by first | assumption | (unfold InR; omega))) rfl rfl (by decide) (by decide) (gs0 hG) rfl rfl (Nat.le_of_ble_eq_true rfl) ?_
              rw [e4, e5]
              refine wp_istore dX10_heights_63 (by decide) ?_
              refine wp_aload_n dX10_heights_65 rfl ?_
              refine wp_getC dX10_heights_66 flX10_56 rfl rfl ?_
              refine wp_aload_n dX10_heights_69 rfl ?_
              refine wp_getM dX10_heights_70 flX10_46 rfl rfl ?_
              refine wp_iload dX10_heights_73 rfl ?_
              refine wp_callVp dX10_heights_75 mlX10_182 mvX3_gapAt (S_X3_gapAt g (by assumption) (by omega) (by omega)) rfl rfl (by decide) (by decide) (gs0 hG) rfl rfl (Nat.le_of_ble_eq_true rfl) ?_
              rw [a.gap o q5]
              refine wp_iload dX10_heights_78 rfl ?_
              refine wp_aload_n dX10_heights_80 rfl ?_
              refine wp_getM dX10_heights_81 flX10_46 rfl rfl ?_
              refine wp_iload_n dX10_heights_84 rfl ?_
              refine wp_callVp dX10_heights_85 mlX10_159 mvX3_heightOf (S_X3_heightOf g (by first | assumption | (unfold InR; omega))) rfl rfl (by decide) (by decide) (gs0 hG) rfl rfl (Nat.le_of_ble_eq_true rfl) ?_
              rw [eH]
              refine wp_imul dX10_heights_88 ?_
              refine wp_isub dX10_heights_89 ?_
              refine wp_iload dX10_heights_90 rfl ?_
              refine wp_aload_n dX10_heights_92 rfl ?_
              refine wp_getC dX10_heights_93 flX10_56 rfl rfl ?_
              refine wp_iload_n dX10_heights_96 rfl ?_
              refine wp_callVp dX10_heights_97 mlX10_285 mvX5_signOf (S_X5_signOf (by omega) (by omega)) rfl rfl (by decide) (by decide) rfl rfl rfl (Nat.le_of_ble_eq_true rfl) ?_
              rw [ii, q4]
              refine wp_callV dX10_heights_100 mlX10_288 mvX5_narrow (S_X5_narrow (by omega) (by omega) (by omega) (by omega)) rfl rfl (by decide) (by decide) rfl rfl rfl (Nat.le_of_ble_eq_true rfl) ?_
              rintro rv h2 ⟨rfl, rk, r3, r4⟩
              have nb := nrw_b (b := gapF (sG σ) q.1 - slp (gP (sG σ)) (gA (sG σ)) q.1 p * gH (sG σ) p) (s := slp (gP (sG σ)) (gA (sG σ)) q.1 p) (g := q.2) (r := (hI h1 30 3, hI h1 30 4)) (by omega) (by omega) (by dsimp only; omega)
              have a := a.rk o rk
              have s1 := sameM_tr s1 rk.M
              refine wp_iinc dX10_heights_103 rfl (by decide) ?_
              refine wp_goto 32 dX10_heights_106 (by decide) ?_
              refine wp_loc [(0, .ref (adr X 0)), (1, .int (iI p)), (2, .int (iI w)), (3, .int (iI (i + 1 : Nat)))] ⟨rfl, rfl, rfl, rfl, trivial⟩ ?_
              exact ih (i + 1) _ (by omega) a s1 (by rw [r3, r4]; exact nb) (by rw [hV, q2, List.foldl_cons, r3, r4]; rfl)
        refine wp_loc [(0, .ref (adr X 0)), (1, .int (iI p)), (2, .int (iI w)), (3, .int (iI (0 : Nat)))] ⟨rfl, rfl, rfl, rfl, trivial⟩ ?_
        exact L (sR_ σ).length 0 h1 (by omega) a s1 (by omega) (by rw [hV0, r3, r4]; rfl)
      · refine wp_ldc (z := -1000000) dX10_heights_20 kcX10_181 ?_
        exact wp_iret dX10_heights_22 rfl (⟨vi (by unfold qHeights; rw [if_neg (by omega)]), a, sameM_rf h⟩)

set_option maxRecDepth 20000 in
theorem S_X10_rockedSoWith {X : Cx} {h : Hp} {σ : Sg} {A : Int} (a : AC h σ) (o : SOK σ) (hA : 1 ≤ A ∧ A < gP (sG σ)) : Spec X mX10_rockedSoWith 6 [.ref (adr X 0), .int (iI A)] h (fun rv h' => rv = some (.int (iI (b2i ((sR_ σ).all (soB (sG σ) A) = true)))) ∧ h' = h) := by
  have g := a.gb o
  have hG := g.1
  have gk := o.2.2.2.1
  have gb := gk.b
  have gkb := gk.2.1
  have e4 : hI h (hR h 0 6) 4 = gP (sG σ) := a.2.2.2.2.1.1
  have e5 : hI h (hR h 0 6) 5 = gA (sG σ) := a.2.2.2.2.1.2.1
  have e6 : hI h (hR h 0 6) 6 = gK (sG σ) := a.2.2.2.2.1.2.2.1
  have he : hI h (hR h 0 6) 4 % 2 = 0 := by omega
  have kl := o.2.2.2.2.1.1
  have k1 := a.2.2.2.2.2.1.1
  obtain ⟨B, hB⟩ : ∃ B : Bool, B = (sR_ σ).all (soB (sG σ) A) := ⟨_, rfl⟩
  rw [← hB]
  refine spec_wp (Nat.le_of_ble_eq_true rfl) (by decide +kernel) ?_
  refine wp_loc [(0, .ref (adr X 0)), (1, .int (iI A))] ⟨rfl, rfl, trivial⟩ ?_
  have L : ∀ (n : Nat) (i : Nat), ((i : Int) + n = (sR_ σ).length) → (B = ((sR_ σ).drop i).all (soB (sG σ) A)) → WP X mX10_rockedSoWith 6 10 [(0, .ref (adr X 0)), (1, .int (iI A)), (2, .int (iI (lnF (sG σ)))), (3, .int (iI (i : Nat)))] [] h (fun rv h' => rv = some (.int (iI (b2i (B = true)))) ∧ h' = h) := by
    intro n
    induction n with
    | zero =>
      intro i hn hV
      refine wp_iload_n dX10_rockedSoWith_10 rfl ?_
      refine wp_aload_n dX10_rockedSoWith_11 rfl ?_
      refine wp_getC dX10_rockedSoWith_12 flX10_56 rfl rfl ?_
      refine wp_getI dX10_rockedSoWith_15 flX10_128 rfl rfl ?_
      refine wp_icmpge 72 dX10_rockedSoWith_18 (by decide) (by unfold InR; omega) (by unfold InR; omega) (fun c18 => ?_) (fun c18 => ?_)
      · refine wp_iconst dX10_rockedSoWith_72 ?_
        exact wp_zret dX10_rockedSoWith_73 rfl (by omega) (⟨vb1 (by rw [hV, List.drop_eq_nil_of_le (by omega)]; rfl), rfl⟩)
      · exact absurd c18 (by omega)
    | succ n ih =>
      intro i hn hV
      refine wp_iload_n dX10_rockedSoWith_10 rfl ?_
      refine wp_aload_n dX10_rockedSoWith_11 rfl ?_
      refine wp_getC dX10_rockedSoWith_12 flX10_56 rfl rfl ?_
      refine wp_getI dX10_rockedSoWith_15 flX10_128 rfl rfl ?_
      refine wp_icmpge 72 dX10_rockedSoWith_18 (by decide) (by unfold InR; omega) (by unfold InR; omega) (fun c18 => ?_) (fun c18 => ?_)
      · exact absurd c18 (by omega)
      · have ii : ((i : Nat) : Int).toNat = i := by omega
        obtain ⟨q, q1, q2, q3, q4, q5, q6⟩ := a.rki o (i := i) (by omega)
        have vb := gapF_b gk q.1
        have lb := lnF_b gk
        refine wp_aload_n dX10_rockedSoWith_21 rfl ?_
        refine wp_getM dX10_rockedSoWith_22 flX10_46 rfl rfl ?_
        refine wp_aload_n dX10_rockedSoWith_25 rfl ?_
        refine wp_getM dX10_rockedSoWith_26 flX10_46 rfl rfl ?_
        refine wp_getC dX10_rockedSoWith_29 flX10_304 (gs0 hG) rfl ?_
        refine wp_iload_n dX10_rockedSoWith_32 rfl ?_
        refine wp_aload_n dX10_rockedSoWith_33 rfl ?_
        refine wp_getC dX10_rockedSoWith_34 flX10_56 rfl rfl ?_
        refine wp_iload_n dX10_rockedSoWith_37 rfl ?_
        refine wp_callVp dX10_rockedSoWith_38 mlX10_282 mvX5_turningOf (S_X5_turningOf (by omega) (by omega)) rfl rfl (by decide) (by decide) rfl rfl rfl (Nat.le_of_ble_eq_true rfl) ?_
        rw [ii, q3]
        refine wp_callVp dX10_rockedSoWith_41 mlX10_307 mvX3_groundGap (S_X3_groundGap g (gs1 hG) he (by omega) (by omega)) rfl rfl (by decide) (by decide) (gs0 hG) rfl rfl (Nat.le_of_ble_eq_true rfl) ?_
        rw [a.ggp o (by omega) q5]
        refine wp_iload_n dX10_rockedSoWith_44 rfl ?_
        refine wp_isub dX10_rockedSoWith_45 ?_
        rw [show ggap (gH (sG σ)) (gP (sG σ)) A q.1 - lnF (sG σ) = gapA (sG σ) A q.1 from rfl]
        have vb2 : -396 ≤ gapA (sG σ) A q.1 ∧ gapA (sG σ) A q.1 ≤ 396 := by
          have := ggap_b gk.h (gP (sG σ)) A q.1
          unfold gapA
          omega
        have sgb := sgn_b (gapA (sG σ) A q.1)
        refine wp_istore dX10_rockedSoWith_46 (by decide) ?_
        refine wp_iload dX10_rockedSoWith_48 rfl ?_
        refine wp_callSp dX10_rockedSoWith_50 mlX10_311 msJ6_signum_0f7a4 (S_J6_signum_0f7a4 (by first | assumption | (unfold InR; omega))) rfl rfl (by decide) (by decide) (Nat.le_of_ble_eq_true rfl) ?_
        refine wp_aload_n dX10_rockedSoWith_53 rfl ?_
        refine wp_getC dX10_rockedSoWith_54 flX10_56 rfl rfl ?_
        refine wp_iload_n dX10_rockedSoWith_57 rfl ?_
        refine wp_callVp dX10_rockedSoWith_58 mlX10_285 mvX5_signOf (S_X5_signOf (by omega) (by omega)) rfl rfl (by decide) (by decide) rfl rfl rfl (Nat.le_of_ble_eq_true rfl) ?_
        rw [ii, q4]
        refine wp_icmpeq 66 dX10_rockedSoWith_61 (by decide) (by unfold InR; omega) (by unfold InR; omega) (fun c61 => ?_) (fun c61 => ?_)
        · refine wp_iinc dX10_rockedSoWith_66 rfl (by decide) ?_
          refine wp_goto 10 dX10_rockedSoWith_69 (by decide) ?_
          refine wp_loc [(0, .ref (adr X 0)), (1, .int (iI A)), (2, .int (iI (lnF (sG σ)))), (3, .int (iI (i + 1 : Nat)))] ⟨rfl, rfl, rfl, rfl, trivial⟩ ?_
          exact ih (i + 1) (by omega) (by rw [hV, q2, List.all_cons]; simp [soB, c61])
        · refine wp_iconst dX10_rockedSoWith_64 ?_
          exact wp_zret dX10_rockedSoWith_65 rfl (by omega) (⟨vb0 (by rw [hV, q2, List.all_cons]; simp [soB, c61]), rfl⟩)
  refine wp_aload_n dX10_rockedSoWith_0 rfl ?_
  refine wp_getM dX10_rockedSoWith_1 flX10_46 rfl rfl ?_
  refine wp_callVp dX10_rockedSoWith_4 mlX10_301 mvX3_lean (S_X3_lean g) rfl rfl (by decide) (by decide) (gs0 hG) rfl rfl (Nat.le_of_ble_eq_true rfl) ?_
  rw [a.lean]
  refine wp_istore_n dX10_rockedSoWith_7 (by decide) ?_
  refine wp_iconst dX10_rockedSoWith_8 ?_
  refine wp_istore_n dX10_rockedSoWith_9 (by decide) ?_
  refine wp_loc [(0, .ref (adr X 0)), (1, .int (iI A)), (2, .int (iI (lnF (sG σ)))), (3, .int (iI (0 : Nat)))] ⟨rfl, rfl, rfl, rfl, trivial⟩ ?_
  exact L (sR_ σ).length 0 (by omega) (by rw [hB]; rfl)

set_option maxRecDepth 20000 in
theorem S_X10_angles {X : Cx} {h : Hp} {σ : Sg} (a : AC h σ) (o : SOK σ)  : Spec X mX10_angles 30 [.ref (adr X 0)] h (fun rv h' => rv = some (.int (iI (qAngles σ))) ∧ AC h' σ ∧ sameM h h') := by
  have g := a.gb o
  have hG := g.1
  have gk := o.2.2.2.1
  have gb := gk.b
  have gkb := gk.2.1
  have e4 : hI h (hR h 0 6) 4 = gP (sG σ) := a.2.2.2.2.1.1
  have e5 : hI h (hR h 0 6) 5 = gA (sG σ) := a.2.2.2.2.1.2.1
  have e6 : hI h (hR h 0 6) 6 = gK (sG σ) := a.2.2.2.2.1.2.2.1
  have he : hI h (hR h 0 6) 4 % 2 = 0 := by omega
  obtain ⟨V, hV0⟩ : ∃ V : Int, V = qAngles σ := ⟨_, rfl⟩
  rw [← hV0]
  unfold qAngles at hV0
  refine spec_wp (Nat.le_of_ble_eq_true rfl) (by decide +kernel) ?_
  refine wp_loc [(0, .ref (adr X 0))] ⟨rfl, trivial⟩ ?_
  refine wp_aload_n dX10_angles_0 rfl ?_
  refine wp_callVp dX10_angles_1 mlX10_148 mvX10_noGarden (S_X10_noGarden g) rfl rfl (by decide) (by decide) rfl rfl rfl (Nat.le_of_ble_eq_true rfl) ?_
  refine wp_ifeqb 9 dX10_angles_4 (by decide) (fun c4 => ?_) (fun c4 => ?_)
  · refine wp_iconst dX10_angles_9 ?_
    refine wp_istore_n dX10_angles_10 (by decide) ?_
    refine wp_iconst dX10_angles_11 ?_
    refine wp_istore_n dX10_angles_12 (by decide) ?_
    have L : ∀ (n : Nat) (A b : Int), (A + n = gP (sG σ) / 2) → (1 ≤ A) → (V = anF (sG σ) (sR_ σ) n A b) → WP X mX10_angles 30 13 [(0, .ref (adr X 0)), (1, .int (iI b)), (2, .int (iI A))] [] h (fun rv h' => rv = some (.int (iI V)) ∧ AC h' σ ∧ sameM h h') := by
      intro n
      induction n with
      | zero =>
        intro A b hn hA hV
        refine wp_iload_n dX10_angles_13 rfl ?_
        refine wp_aload_n dX10_angles_14 rfl ?_
        refine wp_getM dX10_angles_15 flX10_46 rfl rfl ?_
        refine wp_getI dX10_angles_18 flX10_137 (gs0 hG) rfl ?_
        refine wp_iconst dX10_angles_21 ?_
        refine wp_idivp dX10_angles_22 (by omega) (by omega) (by unfold InR; omega) (by unfold InR; omega) ?_
        refine wp_icmpge 46 dX10_angles_23 (by decide) (by unfold InR; omega) (by unfold InR; omega) (fun c23 => ?_) (fun c23 => ?_)
        · refine wp_iload_n dX10_angles_46 rfl ?_
          exact wp_iret dX10_angles_47 rfl (⟨vi (by rw [hV]; rfl), a, sameM_rf h⟩)
        · exact absurd c23 (by omega)
      | succ n ih =>
        intro A b hn hA hV
        refine wp_iload_n dX10_angles_13 rfl ?_
        refine wp_aload_n dX10_angles_14 rfl ?_
        refine wp_getM dX10_angles_15 flX10_46 rfl rfl ?_
        refine wp_getI dX10_angles_18 flX10_137 (gs0 hG) rfl ?_
        refine wp_iconst dX10_angles_21 ?_
        refine wp_idivp dX10_angles_22 (by omega) (by omega) (by unfold InR; omega) (by unfold InR; omega) ?_
        refine wp_icmpge 46 dX10_angles_23 (by decide) (by unfold InR; omega) (by unfold InR; omega) (fun c23 => ?_) (fun c23 => ?_)
        · exact absurd c23 (by omega)
        · refine wp_aload_n dX10_angles_26 rfl ?_
          refine wp_iload_n dX10_angles_27 rfl ?_
          refine wp_callVp dX10_angles_28 mlX10_298 mvX10_rockedSoWith (S_X10_rockedSoWith a o (by omega)) rfl rfl (by decide) (by decide) rfl rfl rfl (Nat.le_of_ble_eq_true rfl) ?_
          refine wp_ifeqb 40 dX10_angles_31 (by decide) (fun c31 => ?_) (fun c31 => ?_)
          · refine wp_iinc dX10_angles_40 rfl (by decide) ?_
            refine wp_goto 13 dX10_angles_43 (by decide) ?_
            refine wp_loc [(0, .ref (adr X 0)), (1, .int (iI _)), (2, .int (iI (A + 1)))] ⟨rfl, rfl, rfl, trivial⟩ ?_
            exact ih (A + 1) _ (by omega) (by omega) (hV.trans (by rw [anF]; first | rw [if_pos (by assumption)] | rw [if_neg (by assumption)]))
          · refine wp_iload_n dX10_angles_34 rfl ?_
            refine wp_iconst dX10_angles_35 ?_
            refine wp_iload_n dX10_angles_36 rfl ?_
            refine wp_ishl dX10_angles_37 ?_
            refine wp_ior dX10_angles_38 ?_
            refine wp_istore_n dX10_angles_39 (by decide) ?_
            refine wp_iinc dX10_angles_40 rfl (by decide) ?_
            refine wp_goto 13 dX10_angles_43 (by decide) ?_
            refine wp_loc [(0, .ref (adr X 0)), (1, .int (iI _)), (2, .int (iI (A + 1)))] ⟨rfl, rfl, rfl, trivial⟩ ?_
            exact ih (A + 1) _ (by omega) (by omega) (hV.trans (by rw [anF]; first | rw [if_pos (by assumption)] | rw [if_neg (by assumption)]))
    refine wp_loc [(0, .ref (adr X 0)), (1, .int (iI 0)), (2, .int (iI 1))] ⟨rfl, rfl, rfl, trivial⟩ ?_
    exact L (gP (sG σ) / 2 - 1).toNat 1 0 (by omega) (by omega) (by rw [hV0, if_neg (by omega)])
  · refine wp_iconst dX10_angles_7 ?_
    exact wp_iret dX10_angles_8 rfl (⟨vi (by rw [hV0, if_pos (by omega)]), a, sameM_rf h⟩)

def nRock (σ : Sg) (p s : Int) : Sg := if (0 ≤ p ∧ p < gP (sG σ)) ∧ (-1 ≤ s ∧ s ≤ 1) ∧ (sR_ σ).length < 20 then (σ.1, σ.2.1, σ.2.2.1, σ.2.2.2.1, sR_ σ ++ [(p, s)], σ.2.2.2.2.2) else σ
def rRock (σ : Sg) (p s : Int) : Int := if (0 ≤ p ∧ p < gP (sG σ)) ∧ (-1 ≤ s ∧ s ≤ 1) ∧ (sR_ σ).length < 20 then (sR_ σ).length + 1 else -1
def rkH (h : Hp) (p s : Int) : Hp := sI (sI (sI h 31 (hI h 30 2).toNat p) 32 (hI h 30 2).toNat s) 30 2 (hI h 30 2 + 1)
theorem rkH_I {h : Hp} {p s : Int} {c j : Nat} (h1 : c ≠ 30) (h2 : c ≠ 31) (h3 : c ≠ 32) : hI (rkH h p s) c j = hI h c j := by unfold rkH; rw [hI_sI, if_neg (by omega), hI_sI, if_neg (by omega), hI_sI, if_neg (by omega)]
theorem AC.rka {h : Hp} {σ : Sg} (a : AC h σ) (o : SOK σ) (p s : Int) (hl : (sR_ σ).length < 20) : AC (rkH h p s) (σ.1, σ.2.1, σ.2.2.1, σ.2.2.2.1, sR_ σ ++ [(p, s)], σ.2.2.2.2.2) := by
  have hk : ∀ c j, (c < 30 ∨ 32 < c) → hI (rkH h p s) c j = hI h c j := fun c j q => rkH_I (by omega) (by omega) (by omega)
  have hw4 := o.2.1.1
  obtain ⟨⟨t1, t2⟩, ⟨w1, w2⟩, d1, r1, g, ⟨k1, k2⟩, -, -, ⟨b1, b2⟩⟩ := id a
  refine ⟨⟨?_, fun i hi => ?_⟩, ⟨?_, fun w t ht => ?_⟩, ?_, r1.keep rfl rfl (fun i hi => hk _ i (by have := r1.b; omega)), a.gar (fun c j q1 q2 => hk c j (by omega)) rfl, ⟨?_, fun i q hq => ?_⟩, a.actk (fun c j q => hk c j (by omega)), a.img (fun c j q => hk c j (by omega)), ⟨?_, fun hb => ?_⟩⟩
  · rw [hk 1 1 (by omega)]; exact t1
  · rw [hk 2 i (by omega)]; exact t2 i hi
  · rw [hk 0 4 (by omega)]; exact w1
  · obtain ⟨k, c, q1, q2, q3⟩ := w2 w t ht
    have hwl : w < (sW σ).length := (List.getElem?_eq_some_iff.mp ht).1
    exact ⟨k, c, q1, by rw [hk _ 1 (by omega)]; exact q2, fun i hi => by rw [hk _ i (by omega)]; exact q3 i hi⟩
  · rw [hk 0 5 (by omega)]; exact d1
  · unfold rkH
    rw [hI_sI, if_pos ⟨rfl, rfl⟩, k1]
    show _ = ((sR_ σ ++ [(p, s)]).length : Int)
    rw [List.length_append]
    simp
  · have hq : (sR_ σ ++ [(p, s)])[i]? = some q := hq
    have e31 : hI (rkH h p s) 31 i = if i = (hI h 30 2).toNat then p else hI h 31 i := by
      unfold rkH
      rw [hI_sI, if_neg (by omega), hI_sI, if_neg (by omega), hI_sI]
      by_cases z : i = (hI h 30 2).toNat
      · rw [if_pos ⟨rfl, z⟩, if_pos z]
      · rw [if_neg (fun w => z w.2), if_neg z]
    have e32 : hI (rkH h p s) 32 i = if i = (hI h 30 2).toNat then s else hI h 32 i := by
      unfold rkH
      rw [hI_sI, if_neg (by omega), hI_sI]
      by_cases z : i = (hI h 30 2).toNat
      · rw [if_pos ⟨rfl, z⟩, if_pos z]
      · rw [if_neg (fun w => z w.2), if_neg z, hI_sI, if_neg (by omega)]
    have e : (hI h 30 2).toNat = (sR_ σ).length := by omega
    rw [e31, e32, e]
    by_cases hi : i < (sR_ σ).length
    · rw [List.getElem?_append_left hi] at hq
      rw [if_neg (by omega), if_neg (by omega)]
      exact k2 i q hq
    · rw [List.getElem?_append_right (by omega)] at hq
      have hz : i - (sR_ σ).length < 1 := (List.getElem?_eq_some_iff.mp hq).1
      have hi2 : i = (sR_ σ).length := by omega
      rw [if_pos hi2, if_pos hi2]
      rw [hi2, Nat.sub_self] at hq
      cases hq
      exact ⟨rfl, rfl⟩
  · rw [hk 36 5 (by omega)]; exact b1
  · rw [hk 36 5 (by omega)] at hb
    rw [hk 36 4 (by omega)]
    refine ⟨(b2 hb).1, fun s s1 s2 => ?_⟩
    rw [hk 37 _ (by omega), hk 38 _ (by omega), hk 39 _ (by omega), hk 40 _ (by omega)]
    exact (b2 hb).2 s s1 s2

set_option maxRecDepth 20000 in
theorem S_X5_add {X : Cx} {h : Hp} {p s : Int} (hs : 0 ≤ hI h 30 2 ∧ hI h 30 2 ≤ 20) : Spec X mX5_add 0 [.ref (adr X 30), .int (iI p), .int (iI s)] h (fun rv h' => (rv = some (.int (iI (-1))) ∧ h' = h ∧ 20 ≤ hI h 30 2) ∨ (rv = some (.int (iI (hI h 30 2 + 1))) ∧ h' = rkH h p s ∧ hI h 30 2 < 20)) := by
  refine spec_wp (Nat.le_of_ble_eq_true rfl) (by decide +kernel) ?_
  refine wp_loc [(0, .ref (adr X 30)), (1, .int (iI p)), (2, .int (iI s))] ⟨rfl, rfl, rfl, trivial⟩ ?_
  refine wp_aload_n dX5_add_0 rfl ?_
  refine wp_getI dX5_add_1 flX5_18 rfl rfl ?_
  refine wp_iflt 16 dX5_add_4 (by decide) (by unfold InR; omega) (fun c4 => ?_) (fun c4 => ?_)
  · exact absurd c4 (by omega)
  · refine wp_aload_n dX5_add_7 rfl ?_
    refine wp_getI dX5_add_8 flX5_18 rfl rfl ?_
    refine wp_bipush dX5_add_11 rfl ?_
    refine wp_icmplt 18 dX5_add_13 (by decide) (by unfold InR; omega) (by unfold InR; omega) (fun c13 => ?_) (fun c13 => ?_)
    · refine wp_aload_n dX5_add_18 rfl ?_
      refine wp_getC dX5_add_19 flX5_11 rfl rfl ?_
      refine wp_aload_n dX5_add_22 rfl ?_
      refine wp_getI dX5_add_23 flX5_18 rfl rfl ?_
      refine wp_iload_n dX5_add_26 rfl ?_
      refine wp_iast dX5_add_27 (by first | rfl | exact gs1 hG | exact gs2 hG | exact gs3 hG | exact gs4 hG | exact ws1 hW | exact ws2 hW | assumption) (by omega) (by omega) ?_
      refine wp_aload_n dX5_add_28 rfl ?_
      refine wp_getC dX5_add_29 flX5_15 rfl rfl ?_
      refine wp_aload_n dX5_add_32 rfl ?_
      refine wp_getI dX5_add_33 flX5_18 rfl rfl ?_
      rw [hI_sI, if_neg (by omega)]
      refine wp_iload_n dX5_add_36 rfl ?_
      refine wp_iast dX5_add_37 (by first | rfl | exact gs1 hG | exact gs2 hG | exact gs3 hG | exact gs4 hG | exact ws1 hW | exact ws2 hW | assumption) (by omega) (by omega) ?_
      refine wp_aload_n dX5_add_38 rfl ?_
      refine wp_dup dX5_add_39 rfl ?_
      refine wp_getI dX5_add_40 flX5_18 rfl rfl ?_
      refine wp_iconst dX5_add_43 ?_
      refine wp_iadd dX5_add_44 ?_
      rw [hI_sI, if_neg (by omega), hI_sI, if_neg (by omega)]
      refine wp_putI dX5_add_45 plX5_18 rfl rfl ?_
      refine wp_aload_n dX5_add_48 rfl ?_
      refine wp_getI dX5_add_49 flX5_18 rfl rfl ?_
      exact wp_iret dX5_add_52 rfl (Or.inr ⟨by rw [hI_sI, if_pos ⟨rfl, rfl⟩], rfl, by omega⟩)
    · refine wp_iconst dX5_add_16 ?_
      exact wp_iret dX5_add_17 rfl (Or.inl ⟨rfl, rfl, by omega⟩)

set_option maxRecDepth 20000 in
theorem S_X10_rock {X : Cx} {h : Hp} {σ : Sg} (a : AC h σ) (o : SOK σ) {p s : Int} (hp : InR p) (hs : InR s) : Spec X mX10_rock 30 [.ref (adr X 0), .int (iI p), .int (iI s)] h (fun rv h' => rv = some (.int (iI (rRock σ p s))) ∧ AC h' (nRock σ p s) ∧ sameM h h') := by
  have g := a.gb o
  have hG := g.1
  have gk := o.2.2.2.1
  have gb := gk.b
  have gkb := gk.2.1
  have e4 : hI h (hR h 0 6) 4 = gP (sG σ) := a.2.2.2.2.1.1
  have e5 : hI h (hR h 0 6) 5 = gA (sG σ) := a.2.2.2.2.1.2.1
  have e6 : hI h (hR h 0 6) 6 = gK (sG σ) := a.2.2.2.2.1.2.2.1
  have he : hI h (hR h 0 6) 4 % 2 = 0 := by omega
  obtain ⟨z1, z2, z3, z4⟩ := a.2.2.2.2.2.2.1
  have z5 := o.2.2.2.2.2.1.1
  have gg : hR h 0 6 = 20 ∨ hR h 0 6 = 25 := hG
  have kl := o.2.2.2.2.1.1
  have k1 := a.2.2.2.2.2.1.1
  refine spec_wp (Nat.le_of_ble_eq_true rfl) (by decide +kernel) ?_
  refine wp_loc [(0, .ref (adr X 0)), (1, .int (iI p)), (2, .int (iI s))] ⟨rfl, rfl, rfl, trivial⟩ ?_
  refine wp_aload_n dX10_rock_0 rfl ?_
  refine wp_getM dX10_rock_1 flX10_46 rfl rfl ?_
  refine wp_iload_n dX10_rock_4 rfl ?_
  refine wp_callVp dX10_rock_5 mlX10_152 mvX3_has (S_X3_has g (by first | assumption | (unfold InR; omega))) rfl rfl (by decide) (by decide) (gs0 hG) rfl rfl (Nat.le_of_ble_eq_true rfl) ?_
  refine wp_ifeqb 21 dX10_rock_8 (by decide) (fun c8 => ?_) (fun c8 => ?_)
  · refine wp_iconst dX10_rock_21 ?_
    exact wp_iret dX10_rock_22 rfl (⟨vi (by unfold rRock; rw [if_neg (by omega)]), by unfold nRock; rw [if_neg (by omega)]; exact a, sameM_rf h⟩)
  · refine wp_iload_n dX10_rock_11 rfl ?_
    refine wp_iconst dX10_rock_12 ?_
    refine wp_icmplt 21 dX10_rock_13 (by decide) (by first | assumption | (unfold InR; omega)) (by first | assumption | (unfold InR; omega)) (fun c13 => ?_) (fun c13 => ?_)
    · refine wp_iconst dX10_rock_21 ?_
      exact wp_iret dX10_rock_22 rfl (⟨vi (by unfold rRock; rw [if_neg (by omega)]), by unfold nRock; rw [if_neg (by omega)]; exact a, sameM_rf h⟩)
    · refine wp_iload_n dX10_rock_16 rfl ?_
      refine wp_iconst dX10_rock_17 ?_
      refine wp_icmple 23 dX10_rock_18 (by decide) (by first | assumption | (unfold InR; omega)) (by first | assumption | (unfold InR; omega)) (fun c18 => ?_) (fun c18 => ?_)
      · refine wp_aload_n dX10_rock_23 rfl ?_
        refine wp_getC dX10_rock_24 flX10_56 rfl rfl ?_
        refine wp_iload_n dX10_rock_27 rfl ?_
        refine wp_iload_n dX10_rock_28 rfl ?_
        refine wp_callV dX10_rock_29 mlX10_277 mvX5_add (S_X5_add (by omega)) rfl rfl (by decide) (by decide) rfl rfl rfl (Nat.le_of_ble_eq_true rfl) ?_
        rintro rv h1 (⟨rfl, e2, q⟩ | ⟨rfl, e2, q⟩) <;> rw [e2]
        · exact wp_iret dX10_rock_32 rfl (⟨vi (by unfold rRock; rw [if_neg (by omega)]), by unfold nRock; rw [if_neg (by omega)]; exact a, sameM_rf h⟩)
        · exact wp_iret dX10_rock_32 rfl (⟨vi (by unfold rRock; rw [if_pos (by omega), k1]), by unfold nRock; rw [if_pos (by omega)]; exact a.rka o p s (by omega), fun c hc => ⟨funext fun j => rkH_I (by omega) (by omega) (by omega), rfl, rfl⟩⟩)
      · refine wp_iconst dX10_rock_21 ?_
        exact wp_iret dX10_rock_22 rfl (⟨vi (by unfold rRock; rw [if_neg (by omega)]), by unfold nRock; rw [if_neg (by omega)]; exact a, sameM_rf h⟩)

