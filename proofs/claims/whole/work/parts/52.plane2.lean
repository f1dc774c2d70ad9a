/-! PLANE: the whole of it -/
def p1F (G : Gdn) (p q : Int) : Bool := oneB (slp (gP G) (gA G) p q) (slp (gP G) (gA G) (nx (gP G) p) q) (gapF G p) (gapF G (nx (gP G) p)) (gH G q)
def p2F (G : Gdn) (p q s : Int) : Bool := twB (slp (gP G) (gA G) p q) (slp (gP G) (gA G) (nx (gP G) p) q) (slp (gP G) (gA G) p s) (slp (gP G) (gA G) (nx (gP G) p) s) (gapF G p) (gapF G (nx (gP G) p)) (gH G q) (gH G s)
def anyF (c : Int → Bool) : Nat → Int → Bool
  | 0, _ => false
  | n + 1, q => c q || anyF c n (q + 1)
def p2A (G : Gdn) (p q : Int) : Bool := anyF (p2F G p q) (gP G - (q + 1)).toNat (q + 1)
def qPlane (σ : Sg) (p : Int) : Int := if 0 ≤ p ∧ p < gP (sG σ) then (if gapF (sG σ) p = 0 ∧ gapF (sG σ) (nx (gP (sG σ)) p) = 0 then 0 else if anyF (p1F (sG σ) p) (gP (sG σ)).toNat 0 = true then 1 else if anyF (p2A (sG σ) p) (gP (sG σ)).toNat 0 = true then 2 else -1) else -1

set_option maxRecDepth 20000 in
theorem S_X10_plane {X : Cx} {h : Hp} {σ : Sg} (a : AC h σ) (o : SOK σ) {p : Int} (hp : InR p) : Spec X mX10_plane 30 [.ref (adr X 0), .int (iI p)] h (fun rv h' => rv = some (.int (iI (qPlane σ p))) ∧ AC h' σ ∧ sameM h h') := by
  have g := a.gb o
  have hG := g.1
  have gk := o.2.2.2.1
  have gb := gk.b
  have gkb := gk.2.1
  have e4 : hI h (hR h 0 6) 4 = gP (sG σ) := a.2.2.2.2.1.1
  have e5 : hI h (hR h 0 6) 5 = gA (sG σ) := a.2.2.2.2.1.2.1
  have e6 : hI h (hR h 0 6) 6 = gK (sG σ) := a.2.2.2.2.1.2.2.1
  have he : hI h (hR h 0 6) 4 % 2 = 0 := by omega
  have vb := gapF_b gk p
  have vb2 := gapF_b gk (nx (gP (sG σ)) p)
  refine spec_wp (Nat.le_of_ble_eq_true rfl) (by decide +kernel) ?_
  refine wp_loc [(0, .ref (adr X 0)), (1, .int (iI p))] ⟨rfl, rfl, trivial⟩ ?_
  refine wp_aload_n dX10_plane_0 rfl ?_
  refine wp_getM dX10_plane_1 flX10_46 rfl rfl ?_
  refine wp_iload_n dX10_plane_4 rfl ?_
  refine wp_callVp dX10_plane_5 mlX10_152 mvX3_has (S_X3_has g (by first | assumption | (unfold InR; omega))) rfl rfl (by decide) (by decide) (gs0 hG) rfl rfl (Nat.le_of_ble_eq_true rfl) ?_
  refine wp_ifneb 13 dX10_plane_8 (by decide) (fun c8 => ?_) (fun c8 => ?_)
  · refine wp_aload_n dX10_plane_13 rfl ?_
    refine wp_getM dX10_plane_14 flX10_46 rfl rfl ?_
    refine wp_iload_n dX10_plane_17 rfl ?_
    refine wp_iconst dX10_plane_18 ?_
    refine wp_iadd dX10_plane_19 ?_
    refine wp_callVp dX10_plane_20 mlX10_216 mvX3_around (S_X3_around g (by first | assumption | (unfold InR; omega))) rfl rfl (by decide) (by decide) (gs0 hG) rfl rfl (Nat.le_of_ble_eq_true rfl) ?_
    rw [e4]
    have nb := arnd_b (P := gP (sG σ)) (p := p + 1) (by omega)
    rw [show arnd (gP (sG σ)) (p + 1) = nx (gP (sG σ)) p from rfl] at nb ⊢
    refine wp_istore_n dX10_plane_23 (by decide) ?_
    refine wp_aload_n dX10_plane_24 rfl ?_
    refine wp_getM dX10_plane_25 flX10_46 rfl rfl ?_
    refine wp_iload_n dX10_plane_28 rfl ?_
    refine wp_callVp dX10_plane_29 mlX10_182 mvX3_gapAt (S_X3_gapAt g (by assumption) (by omega) (by omega)) rfl rfl (by decide) (by decide) (gs0 hG) rfl rfl (Nat.le_of_ble_eq_true rfl) ?_
    rw [a.gap o (by omega)]
    generalize ha0 : gapF (sG σ) p = a0 at vb
    refine wp_istore_n dX10_plane_32 (by decide) ?_
    refine wp_aload_n dX10_plane_33 rfl ?_
    refine wp_getM dX10_plane_34 flX10_46 rfl rfl ?_
    refine wp_iload_n dX10_plane_37 rfl ?_
    refine wp_callVp dX10_plane_38 mlX10_182 mvX3_gapAt (S_X3_gapAt g (by assumption) (by omega) (by omega)) rfl rfl (by decide) (by decide) (gs0 hG) rfl rfl (Nat.le_of_ble_eq_true rfl) ?_
    rw [a.gap o (by omega)]
    generalize hb0 : gapF (sG σ) (nx (gP (sG σ)) p) = b0 at vb2
    refine wp_istore dX10_plane_41 (by decide) ?_
    refine wp_iload_n dX10_plane_43 rfl ?_
    refine wp_ifne 54 dX10_plane_44 (by decide) (by first | assumption | (unfold InR; omega)) (fun c44 => ?_) (fun c44 => ?_)
    · refine wp_aload_n dX10_plane_54 rfl ?_
      refine wp_getM dX10_plane_55 flX10_46 rfl rfl ?_
      refine wp_iload_n dX10_plane_58 rfl ?_
      refine wp_aload_n dX10_plane_59 rfl ?_
      refine wp_getC dX10_plane_60 flX10_96 rfl rfl ?_
      refine wp_callVv dX10_plane_63 mlX10_259 mvX3_laySlopes (S_X3_laySlopes g (by omega) (b := 45) rfl (by decide)) rfl rfl (by decide) (by decide) (gs0 hG) rfl rfl (Nat.le_of_ble_eq_true rfl) ?_
      have of1 : OffS h (slK h 45 (hI h (hR h 0 6) 4) (hI h (hR h 0 6) 5) p (hI h (hR h 0 6) 4)) := OffS.sA (Or.inr (by decide))
      have x45 : ∀ i : Nat, (i : Int) < gP (sG σ) → hI (slK h 45 (hI h (hR h 0 6) 4) (hI h (hR h 0 6) 5) p (hI h (hR h 0 6) 4)) 45 i = slp (gP (sG σ)) (gA (sG σ)) p i := fun i hi => by unfold slK; rw [hI_sA, if_pos rfl, if_pos (by omega), e4, e5]
      generalize slK h 45 (hI h (hR h 0 6) 4) (hI h (hR h 0 6) 5) p (hI h (hR h 0 6) 4) = h1 at of1 x45 ⊢
      have a := a.off o of1
      have s1 := of1.M
      have g := a.gb o
      have hG := g.1
      have gk := o.2.2.2.1
      have gb := gk.b
      have gkb := gk.2.1
      have e4 : hI h1 (hR h1 0 6) 4 = gP (sG σ) := a.2.2.2.2.1.1
      have e5 : hI h1 (hR h1 0 6) 5 = gA (sG σ) := a.2.2.2.2.1.2.1
      have e6 : hI h1 (hR h1 0 6) 6 = gK (sG σ) := a.2.2.2.2.1.2.2.1
      have he : hI h1 (hR h1 0 6) 4 % 2 = 0 := by omega
      refine wp_aload_n dX10_plane_66 rfl ?_
      refine wp_getM dX10_plane_67 flX10_46 rfl rfl ?_
      refine wp_iload_n dX10_plane_70 rfl ?_
      refine wp_aload_n dX10_plane_71 rfl ?_
      refine wp_getC dX10_plane_72 flX10_99 rfl rfl ?_
      refine wp_callVv dX10_plane_75 mlX10_259 mvX3_laySlopes (S_X3_laySlopes g (by omega) (b := 46) rfl (by decide)) rfl rfl (by decide) (by decide) (gs0 hG) rfl rfl (Nat.le_of_ble_eq_true rfl) ?_
      have of2 : OffS h1 (slK h1 46 (hI h1 (hR h1 0 6) 4) (hI h1 (hR h1 0 6) 5) (nx (gP (sG σ)) p) (hI h1 (hR h1 0 6) 4)) := OffS.sA (Or.inr (by decide))
      have x46 : ∀ i : Nat, (i : Int) < gP (sG σ) → hI (slK h1 46 (hI h1 (hR h1 0 6) 4) (hI h1 (hR h1 0 6) 5) (nx (gP (sG σ)) p) (hI h1 (hR h1 0 6) 4)) 46 i = slp (gP (sG σ)) (gA (sG σ)) (nx (gP (sG σ)) p) i := fun i hi => by unfold slK; rw [hI_sA, if_pos rfl, if_pos (by omega), e4, e5]
      have y45 : ∀ i : Nat, (i : Int) < gP (sG σ) → hI (slK h1 46 (hI h1 (hR h1 0 6) 4) (hI h1 (hR h1 0 6) 5) (nx (gP (sG σ)) p) (hI h1 (hR h1 0 6) 4)) 45 i = slp (gP (sG σ)) (gA (sG σ)) p i := fun i hi => by rw [slK_I (by decide)]; exact x45 i hi
      generalize slK h1 46 (hI h1 (hR h1 0 6) 4) (hI h1 (hR h1 0 6) 5) (nx (gP (sG σ)) p) (hI h1 (hR h1 0 6) 4) = h2 at of2 x46 y45 ⊢
      have a := a.off o of2
      have s1 := sameM_tr s1 of2.M
      have g := a.gb o
      have hG := g.1
      have gk := o.2.2.2.1
      have gb := gk.b
      have gkb := gk.2.1
      have e4 : hI h2 (hR h2 0 6) 4 = gP (sG σ) := a.2.2.2.2.1.1
      have e5 : hI h2 (hR h2 0 6) 5 = gA (sG σ) := a.2.2.2.2.1.2.1
      have e6 : hI h2 (hR h2 0 6) 6 = gK (sG σ) := a.2.2.2.2.1.2.2.1
      have he : hI h2 (hR h2 0 6) 4 % 2 = 0 := by omega
      have r45 : ∀ q : Int, 0 ≤ q ∧ q < gP (sG σ) → hI h2 45 q.toNat = slp (gP (sG σ)) (gA (sG σ)) p q := fun q hq => by rw [y45 q.toNat (by omega), show ((q.toNat : Nat) : Int) = q by omega]
      have r46 : ∀ q : Int, 0 ≤ q ∧ q < gP (sG σ) → hI h2 46 q.toNat = slp (gP (sG σ)) (gA (sG σ)) (nx (gP (sG σ)) p) q := fun q hq => by rw [x46 q.toNat (by omega), show ((q.toNat : Nat) : Int) = q by omega]
      have eH : htO h2 (hR h2 0 6) = gH (sG σ) := a.2.2.2.2.1.2.2.2.2.1
      have sb : ∀ i : Nat, (i : Int) < hI h2 (hR h2 0 6) 4 → (-1 ≤ hI h2 45 i ∧ hI h2 45 i ≤ 1) ∧ -1 ≤ hI h2 46 i ∧ hI h2 46 i ≤ 1 := fun i hi => by rw [y45 i (by omega), x46 i (by omega)]; exact ⟨slp_b _ _ _ _, slp_b _ _ _ _⟩
      refine wp_aload_n dX10_plane_78 rfl ?_
      refine wp_getM dX10_plane_79 flX10_46 rfl rfl ?_
      refine wp_getI dX10_plane_82 flX10_137 (gs0 hG) rfl ?_
      refine wp_bipush dX10_plane_85 rfl ?_
      refine wp_callSp dX10_plane_87 mlX10_256 msJ9_min_7cf53 (S_J9_min_7cf53 (by unfold InR; omega) (by unfold InR; omega)) rfl rfl (by decide) (by decide) (Nat.le_of_ble_eq_true rfl) ?_
      rw [e4, show min (gP (sG σ)) 24 = gP (sG σ) by omega]
      refine wp_istore dX10_plane_90 (by decide) ?_
      refine wp_iconst dX10_plane_92 ?_
      refine wp_istore dX10_plane_93 (by decide) ?_
      obtain ⟨V, hV0⟩ : ∃ V : Int, V = qPlane σ p := ⟨_, rfl⟩
      rw [← hV0]
      unfold qPlane at hV0
      rw [if_pos (by omega), ha0, hb0, if_neg (by omega)] at hV0
      obtain ⟨V2, hV2d⟩ : ∃ V2 : Int, V2 = if anyF (p2A (sG σ) p) (gP (sG σ)).toNat 0 = true then 2 else -1 := ⟨_, rfl⟩
      rw [← hV2d] at hV0
      have L2 : ∀ (n : Nat) (q : Int), (q + n = gP (sG σ)) → (0 ≤ q) → (V2 = if anyF (p2A (sG σ) p) n q = true then 2 else -1) → WP X mX10_plane 30 125 [(0, .ref (adr X 0)), (3, .int (iI a0)), (4, .int (iI b0)), (5, .int (iI (gP (sG σ)))), (6, .int (iI q))] [] h2 (fun rv h' => rv = some (.int (iI V2)) ∧ AC h' σ ∧ sameM h h') := by
        intro n
        induction n with
        | zero =>
          intro q hn hq hVo
          refine wp_iload dX10_plane_125 rfl ?_
          refine wp_iload dX10_plane_127 rfl ?_
          refine wp_icmpge 173 dX10_plane_129 (by decide) (by unfold InR; omega) (by unfold InR; omega) (fun c129 => ?_) (fun c129 => ?_)
          · refine wp_iconst dX10_plane_173 ?_
            exact wp_iret dX10_plane_174 rfl (⟨vi (by rw [hVo]; rfl), a, s1⟩)
          · exact absurd c129 (by omega)
        | succ n iho =>
          intro q hn hq hVo
          refine wp_iload dX10_plane_125 rfl ?_
          refine wp_iload dX10_plane_127 rfl ?_
          refine wp_icmpge 173 dX10_plane_129 (by decide) (by unfold InR; omega) (by unfold InR; omega) (fun c129 => ?_) (fun c129 => ?_)
          · exact absurd c129 (by omega)
          · refine wp_iload dX10_plane_132 rfl ?_
            refine wp_iconst dX10_plane_134 ?_
            refine wp_iadd dX10_plane_135 ?_
            refine wp_istore dX10_plane_136 (by decide) ?_
            obtain ⟨T, hT⟩ : ∃ T : Int, T = if anyF (p2A (sG σ) p) n (q + 1) = true then 2 else -1 := ⟨_, rfl⟩
            have hV3 : V2 = if anyF (p2F (sG σ) p q) (gP (sG σ) - (q + 1)).toNat (q + 1) = true then 2 else T := by
              rw [hVo, anyF, hT, show p2A (sG σ) p q = anyF (p2F (sG σ) p q) (gP (sG σ) - (q + 1)).toNat (q + 1) from rfl]
              cases anyF (p2F (sG σ) p q) (gP (sG σ) - (q + 1)).toNat (q + 1) <;> simp
            have Li : ∀ (n2 : Nat) (s : Int), (s + n2 = gP (sG σ)) → (q < s) → (V2 = if anyF (p2F (sG σ) p q) n2 s = true then 2 else T) → WP X mX10_plane 30 138 [(0, .ref (adr X 0)), (3, .int (iI a0)), (4, .int (iI b0)), (5, .int (iI (gP (sG σ)))), (6, .int (iI q)), (7, .int (iI s))] [] h2 (fun rv h' => rv = some (.int (iI V2)) ∧ AC h' σ ∧ sameM h h') := by
              intro n2
              induction n2 with
              | zero =>
                intro s hm hs hV2
                refine wp_iload dX10_plane_138 rfl ?_
                refine wp_iload dX10_plane_140 rfl ?_
                refine wp_icmpge 167 dX10_plane_142 (by decide) (by unfold InR; omega) (by unfold InR; omega) (fun c142 => ?_) (fun c142 => ?_)
                · refine wp_iinc dX10_plane_167 rfl (by decide) ?_
                  refine wp_goto 125 dX10_plane_170 (by decide) ?_
                  refine wp_loc [(0, .ref (adr X 0)), (3, .int (iI a0)), (4, .int (iI b0)), (5, .int (iI (gP (sG σ)))), (6, .int (iI (q + 1)))] ⟨rfl, rfl, rfl, rfl, rfl, trivial⟩ ?_
                  exact iho (q + 1) (by omega) (by omega) (by rw [hV2, ← hT]; rfl)
                · exact absurd c142 (by omega)
              | succ n2 ihi =>
                intro s hm hs hV2
                refine wp_iload dX10_plane_138 rfl ?_
                refine wp_iload dX10_plane_140 rfl ?_
                refine wp_icmpge 167 dX10_plane_142 (by decide) (by unfold InR; omega) (by unfold InR; omega) (fun c142 => ?_) (fun c142 => ?_)
                · exact absurd c142 (by omega)
                · refine wp_aload_n dX10_plane_145 rfl ?_
                  refine wp_iload dX10_plane_146 rfl ?_
                  refine wp_iload dX10_plane_148 rfl ?_
                  refine wp_iload_n dX10_plane_150 rfl ?_
                  refine wp_iload dX10_plane_151 rfl ?_
                  have e2q : twB (hI h2 45 q.toNat) (hI h2 46 q.toNat) (hI h2 45 s.toNat) (hI h2 46 s.toNat) a0 b0 (htO h2 (hR h2 0 6) q) (htO h2 (hR h2 0 6) s) = p2F (sG σ) p q s := by
                    rw [r45 q (by omega), r46 q (by omega), r45 s (by omega), r46 s (by omega), eH]; unfold p2F; rw [ha0, hb0]
                  refine wp_callVp dX10_plane_153 mlX10_267 mvX10_evenedByTwo (S_X10_evenedByTwo g sb (by omega) (by omega) (by omega) (by omega)) rfl rfl (by decide) (by decide) rfl rfl rfl (Nat.le_of_ble_eq_true rfl) ?_
                  rw [e2q]
                  refine wp_ifeqb 161 dX10_plane_156 (by decide) (fun c156 => ?_) (fun c156 => ?_)
                  · refine wp_iinc dX10_plane_161 rfl (by decide) ?_
                    refine wp_goto 138 dX10_plane_164 (by decide) ?_
                    refine wp_loc [(0, .ref (adr X 0)), (3, .int (iI a0)), (4, .int (iI b0)), (5, .int (iI (gP (sG σ)))), (6, .int (iI q)), (7, .int (iI (s + 1)))] ⟨rfl, rfl, rfl, rfl, rfl, rfl, trivial⟩ ?_
                    exact ihi (s + 1) (by omega) (by omega) (by rw [hV2, anyF]; simp [c156])
                  · refine wp_iconst dX10_plane_159 ?_
                    exact wp_iret dX10_plane_160 rfl (⟨vi (by rw [hV2, anyF]; simp [c156]), a, s1⟩)
            refine wp_loc [(0, .ref (adr X 0)), (3, .int (iI a0)), (4, .int (iI b0)), (5, .int (iI (gP (sG σ)))), (6, .int (iI q)), (7, .int (iI (q + 1)))] ⟨rfl, rfl, rfl, rfl, rfl, rfl, trivial⟩ ?_
            exact Li (gP (sG σ) - (q + 1)).toNat (q + 1) (by omega) (by omega) hV3
      have L1 : ∀ (n : Nat) (q : Int), (q + n = gP (sG σ)) → (0 ≤ q) → (V = if anyF (p1F (sG σ) p) n q = true then 1 else V2) → WP X mX10_plane 30 95 [(0, .ref (adr X 0)), (3, .int (iI a0)), (4, .int (iI b0)), (5, .int (iI (gP (sG σ)))), (6, .int (iI q))] [] h2 (fun rv h' => rv = some (.int (iI V)) ∧ AC h' σ ∧ sameM h h') := by
        intro n
        induction n with
        | zero =>
          intro q hn hq hVo
          refine wp_iload dX10_plane_95 rfl ?_
          refine wp_iload dX10_plane_97 rfl ?_
          refine wp_icmpge 122 dX10_plane_99 (by decide) (by unfold InR; omega) (by unfold InR; omega) (fun c99 => ?_) (fun c99 => ?_)
          · refine wp_iconst dX10_plane_122 ?_
            refine wp_istore dX10_plane_123 (by decide) ?_
            have hVV : V = V2 := hVo
            rw [hVV]
            refine wp_loc [(0, .ref (adr X 0)), (3, .int (iI a0)), (4, .int (iI b0)), (5, .int (iI (gP (sG σ)))), (6, .int (iI 0))] ⟨rfl, rfl, rfl, rfl, rfl, trivial⟩ ?_
            exact L2 (gP (sG σ)).toNat 0 (by omega) (by omega) hV2d
          · exact absurd c99 (by omega)
        | succ n ih =>
          intro q hn hq hVo
          refine wp_iload dX10_plane_95 rfl ?_
          refine wp_iload dX10_plane_97 rfl ?_
          refine wp_icmpge 122 dX10_plane_99 (by decide) (by unfold InR; omega) (by unfold InR; omega) (fun c99 => ?_) (fun c99 => ?_)
          · exact absurd c99 (by omega)
          · refine wp_aload_n dX10_plane_102 rfl ?_
            refine wp_iload dX10_plane_103 rfl ?_
            refine wp_iload_n dX10_plane_105 rfl ?_
            refine wp_iload dX10_plane_106 rfl ?_
            have e1q : oneB (hI h2 45 q.toNat) (hI h2 46 q.toNat) a0 b0 (htO h2 (hR h2 0 6) q) = p1F (sG σ) p q := by
              rw [r45 q (by omega), r46 q (by omega), eH]; unfold p1F; rw [ha0, hb0]
            refine wp_callVp dX10_plane_108 mlX10_263 mvX10_evenedByOne (S_X10_evenedByOne g sb (by omega) (by omega) (by omega)) rfl rfl (by decide) (by decide) rfl rfl rfl (Nat.le_of_ble_eq_true rfl) ?_
            rw [e1q]
            refine wp_ifeqb 116 dX10_plane_111 (by decide) (fun c111 => ?_) (fun c111 => ?_)
            · refine wp_iinc dX10_plane_116 rfl (by decide) ?_
              refine wp_goto 95 dX10_plane_119 (by decide) ?_
              refine wp_loc [(0, .ref (adr X 0)), (3, .int (iI a0)), (4, .int (iI b0)), (5, .int (iI (gP (sG σ)))), (6, .int (iI (q + 1)))] ⟨rfl, rfl, rfl, rfl, rfl, trivial⟩ ?_
              exact ih (q + 1) (by omega) (by omega) (by rw [hVo, anyF]; simp [c111])
            · refine wp_iconst dX10_plane_114 ?_
              exact wp_iret dX10_plane_115 rfl (⟨vi (by rw [hVo, anyF]; simp [c111]), a, s1⟩)
      refine wp_loc [(0, .ref (adr X 0)), (3, .int (iI a0)), (4, .int (iI b0)), (5, .int (iI (gP (sG σ)))), (6, .int (iI 0))] ⟨rfl, rfl, rfl, rfl, rfl, trivial⟩ ?_
      exact L1 (gP (sG σ)).toNat 0 (by omega) (by omega) hV0
    · refine wp_iload dX10_plane_47 rfl ?_
      refine wp_ifne 54 dX10_plane_49 (by decide) (by first | assumption | (unfold InR; omega)) (fun c49 => ?_) (fun c49 => ?_)
      · refine wp_aload_n dX10_plane_54 rfl ?_
        refine wp_getM dX10_plane_55 flX10_46 rfl rfl ?_
        refine wp_iload_n dX10_plane_58 rfl ?_
        refine wp_aload_n dX10_plane_59 rfl ?_
        refine wp_getC dX10_plane_60 flX10_96 rfl rfl ?_
        refine wp_callVv dX10_plane_63 mlX10_259 mvX3_laySlopes (S_X3_laySlopes g (by omega) (b := 45) rfl (by decide)) rfl rfl (by decide) (by decide) (gs0 hG) rfl rfl (Nat.le_of_ble_eq_true rfl) ?_
        have of1 : OffS h (slK h 45 (hI h (hR h 0 6) 4) (hI h (hR h 0 6) 5) p (hI h (hR h 0 6) 4)) := OffS.sA (Or.inr (by decide))
        have x45 : ∀ i : Nat, (i : Int) < gP (sG σ) → hI (slK h 45 (hI h (hR h 0 6) 4) (hI h (hR h 0 6) 5) p (hI h (hR h 0 6) 4)) 45 i = slp (gP (sG σ)) (gA (sG σ)) p i := fun i hi => by unfold slK; rw [hI_sA, if_pos rfl, if_pos (by omega), e4, e5]
        generalize slK h 45 (hI h (hR h 0 6) 4) (hI h (hR h 0 6) 5) p (hI h (hR h 0 6) 4) = h1 at of1 x45 ⊢
        have a := a.off o of1
        have s1 := of1.M
        have g := a.gb o
        have hG := g.1
        have gk := o.2.2.2.1
        have gb := gk.b
        have gkb := gk.2.1
        have e4 : hI h1 (hR h1 0 6) 4 = gP (sG σ) := a.2.2.2.2.1.1
        have e5 : hI h1 (hR h1 0 6) 5 = gA (sG σ) := a.2.2.2.2.1.2.1
        have e6 : hI h1 (hR h1 0 6) 6 = gK (sG σ) := a.2.2.2.2.1.2.2.1
        have he : hI h1 (hR h1 0 6) 4 % 2 = 0 := by omega
        refine wp_aload_n dX10_plane_66 rfl ?_
        refine wp_getM dX10_plane_67 flX10_46 rfl rfl ?_
        refine wp_iload_n dX10_plane_70 rfl ?_
        refine wp_aload_n dX10_plane_71 rfl ?_
        refine wp_getC dX10_plane_72 flX10_99 rfl rfl ?_
        refine wp_callVv dX10_plane_75 mlX10_259 mvX3_laySlopes (S_X3_laySlopes g (by omega) (b := 46) rfl (by decide)) rfl rfl (by decide) (by decide) (gs0 hG) rfl rfl (Nat.le_of_ble_eq_true rfl) ?_
        have of2 : OffS h1 (slK h1 46 (hI h1 (hR h1 0 6) 4) (hI h1 (hR h1 0 6) 5) (nx (gP (sG σ)) p) (hI h1 (hR h1 0 6) 4)) := OffS.sA (Or.inr (by decide))
        have x46 : ∀ i : Nat, (i : Int) < gP (sG σ) → hI (slK h1 46 (hI h1 (hR h1 0 6) 4) (hI h1 (hR h1 0 6) 5) (nx (gP (sG σ)) p) (hI h1 (hR h1 0 6) 4)) 46 i = slp (gP (sG σ)) (gA (sG σ)) (nx (gP (sG σ)) p) i := fun i hi => by unfold slK; rw [hI_sA, if_pos rfl, if_pos (by omega), e4, e5]
        have y45 : ∀ i : Nat, (i : Int) < gP (sG σ) → hI (slK h1 46 (hI h1 (hR h1 0 6) 4) (hI h1 (hR h1 0 6) 5) (nx (gP (sG σ)) p) (hI h1 (hR h1 0 6) 4)) 45 i = slp (gP (sG σ)) (gA (sG σ)) p i := fun i hi => by rw [slK_I (by decide)]; exact x45 i hi
        generalize slK h1 46 (hI h1 (hR h1 0 6) 4) (hI h1 (hR h1 0 6) 5) (nx (gP (sG σ)) p) (hI h1 (hR h1 0 6) 4) = h2 at of2 x46 y45 ⊢
        have a := a.off o of2
        have s1 := sameM_tr s1 of2.M
        have g := a.gb o
        have hG := g.1
        have gk := o.2.2.2.1
        have gb := gk.b
        have gkb := gk.2.1
        have e4 : hI h2 (hR h2 0 6) 4 = gP (sG σ) := a.2.2.2.2.1.1
        have e5 : hI h2 (hR h2 0 6) 5 = gA (sG σ) := a.2.2.2.2.1.2.1
        have e6 : hI h2 (hR h2 0 6) 6 = gK (sG σ) := a.2.2.2.2.1.2.2.1
        have he : hI h2 (hR h2 0 6) 4 % 2 = 0 := by omega
        have r45 : ∀ q : Int, 0 ≤ q ∧ q < gP (sG σ) → hI h2 45 q.toNat = slp (gP (sG σ)) (gA (sG σ)) p q := fun q hq => by rw [y45 q.toNat (by omega), show ((q.toNat : Nat) : Int) = q by omega]
        have r46 : ∀ q : Int, 0 ≤ q ∧ q < gP (sG σ) → hI h2 46 q.toNat = slp (gP (sG σ)) (gA (sG σ)) (nx (gP (sG σ)) p) q := fun q hq => by rw [x46 q.toNat (by omega), show ((q.toNat : Nat) : Int) = q by omega]
        have eH : htO h2 (hR h2 0 6) = gH (sG σ) := a.2.2.2.2.1.2.2.2.2.1
        have sb : ∀ i : Nat, (i : Int) < hI h2 (hR h2 0 6) 4 → (-1 ≤ hI h2 45 i ∧ hI h2 45 i ≤ 1) ∧ -1 ≤ hI h2 46 i ∧ hI h2 46 i ≤ 1 := fun i hi => by rw [y45 i (by omega), x46 i (by omega)]; exact ⟨slp_b _ _ _ _, slp_b _ _ _ _⟩
        refine wp_aload_n dX10_plane_78 rfl ?_
        refine wp_getM dX10_plane_79 flX10_46 rfl rfl ?_
        refine wp_getI dX10_plane_82 flX10_137 (gs0 hG) rfl ?_
        refine wp_bipush dX10_plane_85 rfl ?_
        refine wp_callSp dX10_plane_87 mlX10_256 msJ9_min_7cf53 (S_J9_min_7cf53 (by unfold InR; omega) (by unfold InR; omega)) rfl rfl (by decide) (by decide) (Nat.le_of_ble_eq_true rfl) ?_
        rw [e4, show min (gP (sG σ)) 24 = gP (sG σ) by omega]
        refine wp_istore dX10_plane_90 (by decide) ?_
        refine wp_iconst dX10_plane_92 ?_
        refine wp_istore dX10_plane_93 (by decide) ?_
        obtain ⟨V, hV0⟩ : ∃ V : Int, V = qPlane σ p := ⟨_, rfl⟩
        rw [← hV0]
        unfold qPlane at hV0
        rw [if_pos (by omega), ha0, hb0, if_neg (by omega)] at hV0
        obtain ⟨V2, hV2d⟩ : ∃ V2 : Int, V2 = if anyF (p2A (sG σ) p) (gP (sG σ)).toNat 0 = true then 2 else -1 := ⟨_, rfl⟩
        rw [← hV2d] at hV0
        have L2 : ∀ (n : Nat) (q : Int), (q + n = gP (sG σ)) → (0 ≤ q) → (V2 = if anyF (p2A (sG σ) p) n q = true then 2 else -1) → WP X mX10_plane 30 125 [(0, .ref (adr X 0)), (3, .int (iI a0)), (4, .int (iI b0)), (5, .int (iI (gP (sG σ)))), (6, .int (iI q))] [] h2 (fun rv h' => rv = some (.int (iI V2)) ∧ AC h' σ ∧ sameM h h') := by
          intro n
          induction n with
          | zero =>
            intro q hn hq hVo
            refine wp_iload dX10_plane_125 rfl ?_
            refine wp_iload dX10_plane_127 rfl ?_
            refine wp_icmpge 173 dX10_plane_129 (by decide) (by unfold InR; omega) (by unfold InR; omega) (fun c129 => ?_) (fun c129 => ?_)
            · refine wp_iconst dX10_plane_173 ?_
              exact wp_iret dX10_plane_174 rfl (⟨vi (by rw [hVo]; rfl), a, s1⟩)
            · exact absurd c129 (by omega)
          | succ n iho =>
            intro q hn hq hVo
            refine wp_iload dX10_plane_125 rfl ?_
            refine wp_iload dX10_plane_127 rfl ?_
            refine wp_icmpge 173 dX10_plane_129 (by decide) (by unfold InR; omega) (by unfold InR; omega) (fun c129 => ?_) (fun c129 => ?_)
            · exact absurd c129 (by omega)
            · refine wp_iload dX10_plane_132 rfl ?_
              refine wp_iconst dX10_plane_134 ?_
              refine wp_iadd dX10_plane_135 ?_
              refine wp_istore dX10_plane_136 (by decide) ?_
              obtain ⟨T, hT⟩ : ∃ T : Int, T = if anyF (p2A (sG σ) p) n (q + 1) = true then 2 else -1 := ⟨_, rfl⟩
              have hV3 : V2 = if anyF (p2F (sG σ) p q) (gP (sG σ) - (q + 1)).toNat (q + 1) = true then 2 else T := by
                rw [hVo, anyF, hT, show p2A (sG σ) p q = anyF (p2F (sG σ) p q) (gP (sG σ) - (q + 1)).toNat (q + 1) from rfl]
                cases anyF (p2F (sG σ) p q) (gP (sG σ) - (q + 1)).toNat (q + 1) <;> simp
              have Li : ∀ (n2 : Nat) (s : Int), (s + n2 = gP (sG σ)) → (q < s) → (V2 = if anyF (p2F (sG σ) p q) n2 s = true then 2 else T) → WP X mX10_plane 30 138 [(0, .ref (adr X 0)), (3, .int (iI a0)), (4, .int (iI b0)), (5, .int (iI (gP (sG σ)))), (6, .int (iI q)), (7, .int (iI s))] [] h2 (fun rv h' => rv = some (.int (iI V2)) ∧ AC h' σ ∧ sameM h h') := by
                intro n2
                induction n2 with
                | zero =>
                  intro s hm hs hV2
                  refine wp_iload dX10_plane_138 rfl ?_
                  refine wp_iload dX10_plane_140 rfl ?_
                  refine wp_icmpge 167 dX10_plane_142 (by decide) (by unfold InR; omega) (by unfold InR; omega) (fun c142 => ?_) (fun c142 => ?_)
                  · refine wp_iinc dX10_plane_167 rfl (by decide) ?_
                    refine wp_goto 125 dX10_plane_170 (by decide) ?_
                    refine wp_loc [(0, .ref (adr X 0)), (3, .int (iI a0)), (4, .int (iI b0)), (5, .int (iI (gP (sG σ)))), (6, .int (iI (q + 1)))] ⟨rfl, rfl, rfl, rfl, rfl, trivial⟩ ?_
                    exact iho (q + 1) (by omega) (by omega) (by rw [hV2, ← hT]; rfl)
                  · exact absurd c142 (by omega)
                | succ n2 ihi =>
                  intro s hm hs hV2
                  refine wp_iload dX10_plane_138 rfl ?_
                  refine wp_iload dX10_plane_140 rfl ?_
                  refine wp_icmpge 167 dX10_plane_142 (by decide) (by unfold InR; omega) (by unfold InR; omega) (fun c142 => ?_) (fun c142 => ?_)
                  · exact absurd c142 (by omega)
                  · refine wp_aload_n dX10_plane_145 rfl ?_
                    refine wp_iload dX10_plane_146 rfl ?_
                    refine wp_iload dX10_plane_148 rfl ?_
                    refine wp_iload_n dX10_plane_150 rfl ?_
                    refine wp_iload dX10_plane_151 rfl ?_
                    have e2q : twB (hI h2 45 q.toNat) (hI h2 46 q.toNat) (hI h2 45 s.toNat) (hI h2 46 s.toNat) a0 b0 (htO h2 (hR h2 0 6) q) (htO h2 (hR h2 0 6) s) = p2F (sG σ) p q s := by
                      rw [r45 q (by omega), r46 q (by omega), r45 s (by omega), r46 s (by omega), eH]; unfold p2F; rw [ha0, hb0]
                    refine wp_callVp dX10_plane_153 mlX10_267 mvX10_evenedByTwo (S_X10_evenedByTwo g sb (by omega) (by omega) (by omega) (by omega)) rfl rfl (by decide) (by decide) rfl rfl rfl (Nat.le_of_ble_eq_true rfl) ?_
                    rw [e2q]
                    refine wp_ifeqb 161 dX10_plane_156 (by decide) (fun c156 => ?_) (fun c156 => ?_)
                    · refine wp_iinc dX10_plane_161 rfl (by decide) ?_
                      refine wp_goto 138 dX10_plane_164 (by decide) ?_
                      refine wp_loc [(0, .ref (adr X 0)), (3, .int (iI a0)), (4, .int (iI b0)), (5, .int (iI (gP (sG σ)))), (6, .int (iI q)), (7, .int (iI (s + 1)))] ⟨rfl, rfl, rfl, rfl, rfl, rfl, trivial⟩ ?_
                      exact ihi (s + 1) (by omega) (by omega) (by rw [hV2, anyF]; simp [c156])
                    · refine wp_iconst dX10_plane_159 ?_
                      exact wp_iret dX10_plane_160 rfl (⟨vi (by rw [hV2, anyF]; simp [c156]), a, s1⟩)
              refine wp_loc [(0, .ref (adr X 0)), (3, .int (iI a0)), (4, .int (iI b0)), (5, .int (iI (gP (sG σ)))), (6, .int (iI q)), (7, .int (iI (q + 1)))] ⟨rfl, rfl, rfl, rfl, rfl, rfl, trivial⟩ ?_
              exact Li (gP (sG σ) - (q + 1)).toNat (q + 1) (by omega) (by omega) hV3
        have L1 : ∀ (n : Nat) (q : Int), (q + n = gP (sG σ)) → (0 ≤ q) → (V = if anyF (p1F (sG σ) p) n q = true then 1 else V2) → WP X mX10_plane 30 95 [(0, .ref (adr X 0)), (3, .int (iI a0)), (4, .int (iI b0)), (5, .int (iI (gP (sG σ)))), (6, .int (iI q))] [] h2 (fun rv h' => rv = some (.int (iI V)) ∧ AC h' σ ∧ sameM h h') := by
          intro n
          induction n with
          | zero =>
            intro q hn hq hVo
            refine wp_iload dX10_plane_95 rfl ?_
            refine wp_iload dX10_plane_97 rfl ?_
            refine wp_icmpge 122 dX10_plane_99 (by decide) (by unfold InR; omega) (by unfold InR; omega) (fun c99 => ?_) (fun c99 => ?_)
            · refine wp_iconst dX10_plane_122 ?_
              refine wp_istore dX10_plane_123 (by decide) ?_
              have hVV : V = V2 := hVo
              rw [hVV]
              refine wp_loc [(0, .ref (adr X 0)), (3, .int (iI a0)), (4, .int (iI b0)), (5, .int (iI (gP (sG σ)))), (6, .int (iI 0))] ⟨rfl, rfl, rfl, rfl, rfl, trivial⟩ ?_
              exact L2 (gP (sG σ)).toNat 0 (by omega) (by omega) hV2d
            · exact absurd c99 (by omega)
          | succ n ih =>
            intro q hn hq hVo
            refine wp_iload dX10_plane_95 rfl ?_
            refine wp_iload dX10_plane_97 rfl ?_
            refine wp_icmpge 122 dX10_plane_99 (by decide) (by unfold InR; omega) (by unfold InR; omega) (fun c99 => ?_) (fun c99 => ?_)
            · exact absurd c99 (by omega)
            · refine wp_aload_n dX10_plane_102 rfl ?_
              refine wp_iload dX10_plane_103 rfl ?_
              refine wp_iload_n dX10_plane_105 rfl ?_
              refine wp_iload dX10_plane_106 rfl ?_
              have e1q : oneB (hI h2 45 q.toNat) (hI h2 46 q.toNat) a0 b0 (htO h2 (hR h2 0 6) q) = p1F (sG σ) p q := by
                rw [r45 q (by omega), r46 q (by omega), eH]; unfold p1F; rw [ha0, hb0]
              refine wp_callVp dX10_plane_108 mlX10_263 mvX10_evenedByOne (S_X10_evenedByOne g sb (by omega) (by omega) (by omega)) rfl rfl (by decide) (by decide) rfl rfl rfl (Nat.le_of_ble_eq_true rfl) ?_
              rw [e1q]
              refine wp_ifeqb 116 dX10_plane_111 (by decide) (fun c111 => ?_) (fun c111 => ?_)
              · refine wp_iinc dX10_plane_116 rfl (by decide) ?_
                refine wp_goto 95 dX10_plane_119 (by decide) ?_
                refine wp_loc [(0, .ref (adr X 0)), (3, .int (iI a0)), (4, .int (iI b0)), (5, .int (iI (gP (sG σ)))), (6, .int (iI (q + 1)))] ⟨rfl, rfl, rfl, rfl, rfl, trivial⟩ ?_
                exact ih (q + 1) (by omega) (by omega) (by rw [hVo, anyF]; simp [c111])
              · refine wp_iconst dX10_plane_114 ?_
                exact wp_iret dX10_plane_115 rfl (⟨vi (by rw [hVo, anyF]; simp [c111]), a, s1⟩)
        refine wp_loc [(0, .ref (adr X 0)), (3, .int (iI a0)), (4, .int (iI b0)), (5, .int (iI (gP (sG σ)))), (6, .int (iI 0))] ⟨rfl, rfl, rfl, rfl, rfl, trivial⟩ ?_
        exact L1 (gP (sG σ)).toNat 0 (by omega) (by omega) hV0
      · refine wp_iconst dX10_plane_52 ?_
        exact wp_iret dX10_plane_53 rfl (⟨vi (by unfold qPlane; rw [if_pos (by omega), ha0, hb0, if_pos (by omega)]), a, sameM_rf h⟩)
  · refine wp_iconst dX10_plane_11 ?_
    exact wp_iret dX10_plane_12 rfl (⟨vi (by unfold qPlane; rw [if_neg (by omega)]), a, sameM_rf h⟩)

