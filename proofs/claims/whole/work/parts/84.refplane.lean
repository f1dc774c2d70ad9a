/-! the reference: PLANE, TRIAL -/
theorem GM_setH2 {h : Hp} {q v : Int} (hq : 0 ≤ q ∧ q < hI h 47 24) : GM (sI h 52 q.toNat v) = gEH (GM h) q v := by
  have e2 : sM (sI h 52 q.toNat v) = sM h := sM_eq (fun i => by rw [hI_sI, if_neg (by omega)])
  have e1 := hM_set (h := h) (p := q) (v := v) hq
  unfold GM gEH
  rw [e1, e2, hI_sI, if_neg (by omega), hI_sI, if_neg (by omega)]
  rfl
theorem gEH_b2 {G : Gdn} (g : GB2 G) {p v : Int} (hv : 0 ≤ v ∧ v ≤ 99) : GB2 (gEH G p v) := ⟨g.1, g.2.1, fun i => by
    show 0 ≤ upv (gH G) p v i ∧ upv (gH G) p v i ≤ 99
    unfold upv
    split
    · exact hv
    · exact g.2.2.1 i, g.2.2.2⟩
theorem zrB_t {G : Gdn} {p : Int} : zrB G p = true ↔ gapF G p = 0 ∧ gapF G (nx (gP G) p) = 0 := by unfold zrB; exact decide_eq_true_iff

set_option maxRecDepth 20000 in
theorem S_X11_canPlane {X : Cx} {p : Int} : ∀ (l : Nat) (f : Int) (h : Hp), l ≤ 10 → GB2 (GM h) → (0 ≤ p ∧ p < gP (GM h)) → (0 ≤ f ∧ f ≤ gP (GM h)) → Spec X mX11_canPlane (l + 3) [.ref (adr X 47), .int (iI p), .int (iI ((l : Nat) : Int)), .int (iI f)] h (fun rv h' => rv = some (.int (iI (b2i (cpB p l f (GM h) = true)))) ∧ h' = h) := by
  intro l
  induction l with
  | zero =>
    intro f h hl10 g hp hf
    have g1 := g.1
    have nb : 0 ≤ nx (gP (GM h)) p ∧ nx (gP (GM h)) p < gP (GM h) := arnd_b (by omega)
    have pb : p < 24 := by omega
    refine spec_wp (Nat.le_of_ble_eq_true rfl) (by decide +kernel) ?_
    refine wp_loc [(0, .ref (adr X 47)), (1, .int (iI p)), (2, .int (iI ((0 : Nat) : Int))), (3, .int (iI f))] ⟨rfl, rfl, rfl, rfl, trivial⟩ ?_
    refine wp_aload_n dX11_canPlane_0 rfl ?_
    refine wp_iload_n dX11_canPlane_1 rfl ?_
    refine wp_callVp dX11_canPlane_2 mlX11_310 mvX11_gapOf (S_X11_gapOf (p := p) g hp) rfl rfl (by omega) (by decide) rfl rfl rfl (Nat.le_of_ble_eq_true rfl) ?_
    refine wp_ifne 25 dX11_canPlane_5 (by decide) (by have := gap_b2 g p; unfold InR; omega) (fun c5 => ?_) (fun c5 => ?_)
    · have hz : ¬ zrB (GM h) p = true := fun z => by rw [zrB_t] at z; exact c5 z.1
      refine wp_iload_n dX11_canPlane_25 rfl ?_
      refine wp_istore dX11_canPlane_26 (by decide) ?_
      refine wp_iload dX11_canPlane_28 rfl ?_
      refine wp_aload_n dX11_canPlane_30 rfl ?_
      refine wp_getI dX11_canPlane_31 flX11_272 rfl rfl ?_
      rw [show hI h 47 24 = gP (GM h) from rfl]
      refine wp_icmpge 119 dX11_canPlane_34 (by decide) (by unfold InR; omega) (by unfold InR; omega) (fun c34 => ?_) (fun c34 => ?_)
      · refine wp_iconst dX11_canPlane_119 ?_
        exact wp_zret dX11_canPlane_120 rfl (by omega) (⟨vb0 hz, rfl⟩)
      · refine wp_iload_n dX11_canPlane_37 rfl ?_
        refine wp_ifle 119 dX11_canPlane_38 (by decide) (by unfold InR; omega) (fun c38 => ?_) (fun c38 => ?_)
        · refine wp_iconst dX11_canPlane_119 ?_
          exact wp_zret dX11_canPlane_120 rfl (by omega) (⟨vb0 hz, rfl⟩)
        · exact absurd c38 (by omega)
    · refine wp_aload_n dX11_canPlane_8 rfl ?_
      refine wp_iload_n dX11_canPlane_9 rfl ?_
      refine wp_iconst dX11_canPlane_10 ?_
      refine wp_iadd dX11_canPlane_11 ?_
      refine wp_aload_n dX11_canPlane_12 rfl ?_
      refine wp_getI dX11_canPlane_13 flX11_272 rfl rfl ?_
      rw [show hI h 47 24 = gP (GM h) from rfl]
      refine wp_iremp dX11_canPlane_16 (by omega) (by omega) (by unfold InR; omega) (by unfold InR; omega) ?_
      rw [show (p + 1) % gP (GM h) = nx (gP (GM h)) p from arnd_mod (by omega) (by omega)]
      refine wp_callVp dX11_canPlane_17 mlX11_310 mvX11_gapOf (S_X11_gapOf (p := nx (gP (GM h)) p) g nb) rfl rfl (by omega) (by decide) rfl rfl rfl (Nat.le_of_ble_eq_true rfl) ?_
      refine wp_ifne 25 dX11_canPlane_20 (by decide) (by have := gap_b2 g (nx (gP (GM h)) p); unfold InR; omega) (fun c20 => ?_) (fun c20 => ?_)
      · have hz : ¬ zrB (GM h) p = true := fun z => by rw [zrB_t] at z; exact c20 z.2
        refine wp_iload_n dX11_canPlane_25 rfl ?_
        refine wp_istore dX11_canPlane_26 (by decide) ?_
        refine wp_iload dX11_canPlane_28 rfl ?_
        refine wp_aload_n dX11_canPlane_30 rfl ?_
        refine wp_getI dX11_canPlane_31 flX11_272 rfl rfl ?_
        rw [show hI h 47 24 = gP (GM h) from rfl]
        refine wp_icmpge 119 dX11_canPlane_34 (by decide) (by unfold InR; omega) (by unfold InR; omega) (fun c34 => ?_) (fun c34 => ?_)
        · refine wp_iconst dX11_canPlane_119 ?_
          exact wp_zret dX11_canPlane_120 rfl (by omega) (⟨vb0 hz, rfl⟩)
        · refine wp_iload_n dX11_canPlane_37 rfl ?_
          refine wp_ifle 119 dX11_canPlane_38 (by decide) (by unfold InR; omega) (fun c38 => ?_) (fun c38 => ?_)
          · refine wp_iconst dX11_canPlane_119 ?_
            exact wp_zret dX11_canPlane_120 rfl (by omega) (⟨vb0 hz, rfl⟩)
          · exact absurd c38 (by omega)
      · refine wp_iconst dX11_canPlane_23 ?_
        exact wp_zret dX11_canPlane_24 rfl (by omega) (⟨vb1 (zrB_t.mpr ⟨c5, c20⟩), rfl⟩)
  | succ l ih =>
    intro f h hl10 g hp hf
    have g1 := g.1
    have nb : 0 ≤ nx (gP (GM h)) p ∧ nx (gP (GM h)) p < gP (GM h) := arnd_b (by omega)
    have pb : p < 24 := by omega
    refine spec_wp (Nat.le_of_ble_eq_true rfl) (by decide +kernel) ?_
    refine wp_loc [(0, .ref (adr X 47)), (1, .int (iI p)), (2, .int (iI ((l + 1 : Nat) : Int))), (3, .int (iI f))] ⟨rfl, rfl, rfl, rfl, trivial⟩ ?_
    refine wp_aload_n dX11_canPlane_0 rfl ?_
    refine wp_iload_n dX11_canPlane_1 rfl ?_
    refine wp_callVp dX11_canPlane_2 mlX11_310 mvX11_gapOf (S_X11_gapOf (p := p) g hp) rfl rfl (by omega) (by decide) rfl rfl rfl (Nat.le_of_ble_eq_true rfl) ?_
    refine wp_ifne 25 dX11_canPlane_5 (by decide) (by have := gap_b2 g p; unfold InR; omega) (fun c5 => ?_) (fun c5 => ?_)
    · refine wp_iload_n dX11_canPlane_25 rfl ?_
      refine wp_istore dX11_canPlane_26 (by decide) ?_
      have hz : ¬ zrB (GM h) p = true := fun z => by rw [zrB_t] at z; exact c5 z.1
      have hz : zrB (GM h) p = false := by cases h9 : zrB (GM h) p with
        | true => exact absurd h9 hz
        | false => rfl
      have Lcq : ∀ (n : Nat) (q : Int), (q + n = gP (GM h)) → (0 ≤ q) → (cpB p (l + 1) f (GM h) = anyF (fun q => anyF (fun v => cpB p l (q + 1) (gEH (GM h) q v)) 100 0) n q) → WP X mX11_canPlane ((l + 1 + 3)) 28 [(0, .ref (adr X 47)), (1, .int (iI p)), (2, .int (iI ((l + 1 : Nat) : Int))), (3, .int (iI f)), (4, .int (iI q))] [] h (fun rv h' => rv = some (.int (iI (b2i (cpB p (l + 1) f (GM h) = true)))) ∧ h' = h) := by
        intro n
        induction n with
        | zero =>
          intro q hn hq hV
          refine wp_iload dX11_canPlane_28 rfl ?_
          refine wp_aload_n dX11_canPlane_30 rfl ?_
          refine wp_getI dX11_canPlane_31 flX11_272 rfl rfl ?_
          rw [show hI h 47 24 = gP (GM h) from rfl]
          refine wp_icmpge 119 dX11_canPlane_34 (by decide) (by unfold InR; omega) (by unfold InR; omega) (fun c34 => ?_) (fun c34 => ?_)
          · refine wp_iconst dX11_canPlane_119 ?_
            exact wp_zret dX11_canPlane_120 rfl (by omega) (⟨vb0 (fun z => by rw [hV] at z; cases z), rfl⟩)
          · exact absurd c34 (by omega)
        | succ n ihq =>
          intro q hn hq hV
          refine wp_iload dX11_canPlane_28 rfl ?_
          refine wp_aload_n dX11_canPlane_30 rfl ?_
          refine wp_getI dX11_canPlane_31 flX11_272 rfl rfl ?_
          rw [show hI h 47 24 = gP (GM h) from rfl]
          refine wp_icmpge 119 dX11_canPlane_34 (by decide) (by unfold InR; omega) (by unfold InR; omega) (fun c34 => ?_) (fun c34 => ?_)
          · exact absurd c34 (by omega)
          · refine wp_iload_n dX11_canPlane_37 rfl ?_
            refine wp_ifle 119 dX11_canPlane_38 (by decide) (by unfold InR; omega) (fun c38 => ?_) (fun c38 => ?_)
            · exact absurd c38 (by omega)
            · refine wp_aload_n dX11_canPlane_41 rfl ?_
              refine wp_getC dX11_canPlane_42 flX11_37 rfl rfl ?_
              refine wp_iload dX11_canPlane_45 rfl ?_
              refine wp_iald dX11_canPlane_47 (by first | rfl | exact gs1 hG | exact gs2 hG | exact gs3 hG | exact gs4 hG | exact ws1 hW | exact ws2 hW | assumption) (by omega) (by omega) ?_
              refine wp_istore dX11_canPlane_48 (by decide) ?_
              refine wp_iconst dX11_canPlane_50 ?_
              refine wp_istore dX11_canPlane_51 (by decide) ?_
              refine wp_iconst dX11_canPlane_53 ?_
              refine wp_istore dX11_canPlane_54 (by decide) ?_
              obtain ⟨W, hW⟩ : ∃ W, W = anyF (fun v => cpB p l (q + 1) (gEH (GM h) q v)) 100 0 := ⟨_, rfl⟩
              rw [anyF, ← hW] at hV
              have K97 : ∀ u : Int, WP X mX11_canPlane (l + 1 + 3) 97 [(0, .ref (adr X 47)), (1, .int (iI p)), (2, .int (iI ((l + 1 : Nat) : Int))), (3, .int (iI f)), (4, .int (iI q)), (5, .int (iI (hI h 52 q.toNat))), (6, .int (iI (b2i (W = true))))] [] (sI h 52 q.toNat u) (fun rv h' => rv = some (.int (iI (b2i (cpB p (l + 1) f (GM h) = true)))) ∧ h' = h) := by
                intro u
                refine wp_aload_n dX11_canPlane_97 rfl ?_
                refine wp_getC dX11_canPlane_98 flX11_37 rfl rfl ?_
                refine wp_iload dX11_canPlane_101 rfl ?_
                refine wp_iload dX11_canPlane_103 rfl ?_
                refine wp_iast (n := 24) dX11_canPlane_105 rfl (by omega) (by omega) ?_
                rw [sI_sI, sI_self rfl]
                refine wp_iload dX11_canPlane_106 rfl ?_
                refine wp_ifeqb 113 dX11_canPlane_108 (by decide) (fun c108 => ?_) (fun c108 => ?_)
                · refine wp_iinc dX11_canPlane_113 rfl (by decide) ?_
                  refine wp_goto 28 dX11_canPlane_116 (by decide) ?_
                  have c108 : W = false := by cases W with
                    | true => exact absurd rfl c108
                    | false => rfl
                  rw [c108, Bool.false_or] at hV
                  refine wp_loc [(0, .ref (adr X 47)), (1, .int (iI p)), (2, .int (iI ((l + 1 : Nat) : Int))), (3, .int (iI f)), (4, .int (iI (q + 1)))] ⟨rfl, rfl, rfl, rfl, rfl, trivial⟩ ?_
                  exact ihq (q + 1) (by omega) (by omega) hV
                · refine wp_iconst dX11_canPlane_111 ?_
                  exact wp_zret dX11_canPlane_112 rfl (by omega) (⟨vb1 (by rw [hV, c108]; rfl), rfl⟩)
              have Lcv : ∀ (n2 : Nat) (v u : Int), (v + n2 = 100 ∧ 0 ≤ v) → (v ≤ 100) → (W = anyF (fun v => cpB p l (q + 1) (gEH (GM h) q v)) n2 v) → WP X mX11_canPlane ((l + 1 + 3)) 56 [(0, .ref (adr X 47)), (1, .int (iI p)), (2, .int (iI ((l + 1 : Nat) : Int))), (3, .int (iI f)), (4, .int (iI q)), (5, .int (iI (hI h 52 q.toNat))), (6, .int (iI 0)), (7, .int (iI v))] [] (sI h 52 q.toNat u) (fun rv h' => rv = some (.int (iI (b2i (cpB p (l + 1) f (GM h) = true)))) ∧ h' = h) := by
                intro n2
                induction n2 with
                | zero =>
                  intro v u hv hv2 hU
                  refine wp_iload dX11_canPlane_56 rfl ?_
                  refine wp_bipush dX11_canPlane_58 rfl ?_
                  refine wp_icmpgt 97 dX11_canPlane_60 (by decide) (by unfold InR; omega) (by unfold InR; omega) (fun c60 => ?_) (fun c60 => ?_)
                  · refine wp_loc [(0, .ref (adr X 47)), (1, .int (iI p)), (2, .int (iI ((l + 1 : Nat) : Int))), (3, .int (iI f)), (4, .int (iI q)), (5, .int (iI (hI h 52 q.toNat))), (6, .int (iI 0))] ⟨rfl, rfl, rfl, rfl, rfl, rfl, rfl, trivial⟩ ?_
                    have hU : W = false := hU
                    have q9 := K97 u
                    rw [b2i_f (show ¬ W = true from by rw [hU]; decide)] at q9
                    exact q9
                  · exact absurd c60 (by omega)
                | succ n2 ihv =>
                  intro v u hv hv2 hU
                  refine wp_iload dX11_canPlane_56 rfl ?_
                  refine wp_bipush dX11_canPlane_58 rfl ?_
                  refine wp_icmpgt 97 dX11_canPlane_60 (by decide) (by unfold InR; omega) (by unfold InR; omega) (fun c60 => ?_) (fun c60 => ?_)
                  · exact absurd c60 (by omega)
                  · refine wp_iload dX11_canPlane_63 rfl ?_
                    refine wp_ifne 97 dX11_canPlane_65 (by decide) (by unfold InR; omega) (fun c65 => ?_) (fun c65 => ?_)
                    · exact absurd rfl c65
                    · refine wp_aload_n dX11_canPlane_68 rfl ?_
                      refine wp_getC dX11_canPlane_69 flX11_37 rfl rfl ?_
                      refine wp_iload dX11_canPlane_72 rfl ?_
                      refine wp_iload dX11_canPlane_74 rfl ?_
                      refine wp_iast (n := 24) dX11_canPlane_76 rfl (by omega) (by omega) ?_
                      rw [sI_sI]
                      have eG := GM_setH2 (h := h) (q := q) (v := v) (by show _ ∧ _ < gP (GM h); omega)
                      rw [anyF] at hU
                      refine wp_aload_n dX11_canPlane_77 rfl ?_
                      refine wp_iload_n dX11_canPlane_78 rfl ?_
                      refine wp_iload_n dX11_canPlane_79 rfl ?_
                      refine wp_iconst dX11_canPlane_80 ?_
                      refine wp_isub dX11_canPlane_81 ?_
                      rw [show ((l + 1 : Nat) : Int) - 1 = ((l : Nat) : Int) by omega]
                      refine wp_iload dX11_canPlane_82 rfl ?_
                      refine wp_iconst dX11_canPlane_84 ?_
                      refine wp_iadd dX11_canPlane_85 ?_
                      refine wp_callVp dX11_canPlane_86 mlX11_407 mvX11_canPlane (ih (q + 1) (sI h 52 q.toNat v) (by omega) (by rw [eG]; exact gEH_b2 g (by omega)) (by rw [eG]; exact hp) (by rw [eG]; show _ ∧ _ ≤ gP (GM h); omega)) rfl rfl (by omega) (by decide) rfl rfl rfl (Nat.le_of_ble_eq_true rfl) ?_
                      rw [eG]
                      by_cases hc : cpB p l (q + 1) (gEH (GM h) q v) = true
                      · rw [b2i_t hc]
                        refine wp_istore dX11_canPlane_89 (by decide) ?_
                        refine wp_iinc dX11_canPlane_91 rfl (by decide) ?_
                        refine wp_goto 56 dX11_canPlane_94 (by decide) ?_
                        refine wp_iload dX11_canPlane_56 rfl ?_
                        refine wp_bipush dX11_canPlane_58 rfl ?_
                        refine wp_icmpgt 97 dX11_canPlane_60 (by decide) (by unfold InR; omega) (by unfold InR; omega) (fun c60 => ?_) (fun c60 => ?_)
                        · refine wp_loc [(0, .ref (adr X 47)), (1, .int (iI p)), (2, .int (iI ((l + 1 : Nat) : Int))), (3, .int (iI f)), (4, .int (iI q)), (5, .int (iI (hI h 52 q.toNat))), (6, .int (iI 1))] ⟨rfl, rfl, rfl, rfl, rfl, rfl, rfl, trivial⟩ ?_
                          have q9 := K97 v
                          rw [b2i_t (show W = true from by rw [hU, hc]; rfl)] at q9
                          exact q9
                        · refine wp_iload dX11_canPlane_63 rfl ?_
                          refine wp_ifne 97 dX11_canPlane_65 (by decide) (by unfold InR; omega) (fun c65 => ?_) (fun c65 => ?_)
                          · refine wp_loc [(0, .ref (adr X 47)), (1, .int (iI p)), (2, .int (iI ((l + 1 : Nat) : Int))), (3, .int (iI f)), (4, .int (iI q)), (5, .int (iI (hI h 52 q.toNat))), (6, .int (iI 1))] ⟨rfl, rfl, rfl, rfl, rfl, rfl, rfl, trivial⟩ ?_
                            have q9 := K97 v
                            rw [b2i_t (show W = true from by rw [hU, hc]; rfl)] at q9
                            exact q9
                          · exact absurd c65 (by decide)
                      · rw [b2i_f hc]
                        have hc : cpB p l (q + 1) (gEH (GM h) q v) = false := by cases hz9 : cpB p l (q + 1) (gEH (GM h) q v) with
                          | true => exact absurd hz9 hc
                          | false => rfl
                        rw [hc, Bool.false_or] at hU
                        refine wp_istore dX11_canPlane_89 (by decide) ?_
                        refine wp_iinc dX11_canPlane_91 rfl (by decide) ?_
                        refine wp_goto 56 dX11_canPlane_94 (by decide) ?_
                        refine wp_loc [(0, .ref (adr X 47)), (1, .int (iI p)), (2, .int (iI ((l + 1 : Nat) : Int))), (3, .int (iI f)), (4, .int (iI q)), (5, .int (iI (hI h 52 q.toNat))), (6, .int (iI 0)), (7, .int (iI (v + 1)))] ⟨rfl, rfl, rfl, rfl, rfl, rfl, rfl, rfl, trivial⟩ ?_
                        exact ihv (v + 1) v (by omega) (by omega) hU
              refine wp_loc [(0, .ref (adr X 47)), (1, .int (iI p)), (2, .int (iI ((l + 1 : Nat) : Int))), (3, .int (iI f)), (4, .int (iI q)), (5, .int (iI (hI h 52 q.toNat))), (6, .int (iI 0)), (7, .int (iI 0))] ⟨rfl, rfl, rfl, rfl, rfl, rfl, rfl, rfl, trivial⟩ ?_
              have q9 := Lcv 100 0 (hI h 52 q.toNat) (by omega) (by omega) hW
              rw [sI_self rfl] at q9
              exact q9
      refine wp_loc [(0, .ref (adr X 47)), (1, .int (iI p)), (2, .int (iI ((l + 1 : Nat) : Int))), (3, .int (iI f)), (4, .int (iI f))] ⟨rfl, rfl, rfl, rfl, rfl, trivial⟩ ?_
      exact Lcq (gP (GM h) - f).toNat f (by omega) (by omega) (by rw [cpB, hz]; rfl)
    · refine wp_aload_n dX11_canPlane_8 rfl ?_
      refine wp_iload_n dX11_canPlane_9 rfl ?_
      refine wp_iconst dX11_canPlane_10 ?_
      refine wp_iadd dX11_canPlane_11 ?_
      refine wp_aload_n dX11_canPlane_12 rfl ?_
      refine wp_getI dX11_canPlane_13 flX11_272 rfl rfl ?_
      rw [show hI h 47 24 = gP (GM h) from rfl]
      refine wp_iremp dX11_canPlane_16 (by omega) (by omega) (by unfold InR; omega) (by unfold InR; omega) ?_
      rw [show (p + 1) % gP (GM h) = nx (gP (GM h)) p from arnd_mod (by omega) (by omega)]
      refine wp_callVp dX11_canPlane_17 mlX11_310 mvX11_gapOf (S_X11_gapOf (p := nx (gP (GM h)) p) g nb) rfl rfl (by omega) (by decide) rfl rfl rfl (Nat.le_of_ble_eq_true rfl) ?_
      refine wp_ifne 25 dX11_canPlane_20 (by decide) (by have := gap_b2 g (nx (gP (GM h)) p); unfold InR; omega) (fun c20 => ?_) (fun c20 => ?_)
      · refine wp_iload_n dX11_canPlane_25 rfl ?_
        refine wp_istore dX11_canPlane_26 (by decide) ?_
        have hz : ¬ zrB (GM h) p = true := fun z => by rw [zrB_t] at z; exact c20 z.2
        have hz : zrB (GM h) p = false := by cases h9 : zrB (GM h) p with
          | true => exact absurd h9 hz
          | false => rfl
        have Lcq : ∀ (n : Nat) (q : Int), (q + n = gP (GM h)) → (0 ≤ q) → (cpB p (l + 1) f (GM h) = anyF (fun q => anyF (fun v => cpB p l (q + 1) (gEH (GM h) q v)) 100 0) n q) → WP X mX11_canPlane ((l + 1 + 3)) 28 [(0, .ref (adr X 47)), (1, .int (iI p)), (2, .int (iI ((l + 1 : Nat) : Int))), (3, .int (iI f)), (4, .int (iI q))] [] h (fun rv h' => rv = some (.int (iI (b2i (cpB p (l + 1) f (GM h) = true)))) ∧ h' = h) := by
          intro n
          induction n with
          | zero =>
            intro q hn hq hV
            refine wp_iload dX11_canPlane_28 rfl ?_
            refine wp_aload_n dX11_canPlane_30 rfl ?_
            refine wp_getI dX11_canPlane_31 flX11_272 rfl rfl ?_
            rw [show hI h 47 24 = gP (GM h) from rfl]
            refine wp_icmpge 119 dX11_canPlane_34 (by decide) (by unfold InR; omega) (by unfold InR; omega) (fun c34 => ?_) (fun c34 => ?_)
            · refine wp_iconst dX11_canPlane_119 ?_
              exact wp_zret dX11_canPlane_120 rfl (by omega) (⟨vb0 (fun z => by rw [hV] at z; cases z), rfl⟩)
            · exact absurd c34 (by omega)
          | succ n ihq =>
            intro q hn hq hV
            refine wp_iload dX11_canPlane_28 rfl ?_
            refine wp_aload_n dX11_canPlane_30 rfl ?_
            refine wp_getI dX11_canPlane_31 flX11_272 rfl rfl ?_
            rw [show hI h 47 24 = gP (GM h) from rfl]
            refine wp_icmpge 119 dX11_canPlane_34 (by decide) (by unfold InR; omega) (by unfold InR; omega) (fun c34 => ?_) (fun c34 => ?_)
            · exact absurd c34 (by omega)
            · refine wp_iload_n dX11_canPlane_37 rfl ?_
              refine wp_ifle 119 dX11_canPlane_38 (by decide) (by unfold InR; omega) (fun c38 => ?_) (fun c38 => ?_)
              · exact absurd c38 (by omega)
              · refine wp_aload_n dX11_canPlane_41 rfl ?_
                refine wp_getC dX11_canPlane_42 flX11_37 rfl rfl ?_
                refine wp_iload dX11_canPlane_45 rfl ?_
                refine wp_iald dX11_canPlane_47 (by first | rfl | exact gs1 hG | exact gs2 hG | exact gs3 hG | exact gs4 hG | exact ws1 hW | exact ws2 hW | assumption) (by omega) (by omega) ?_
                refine wp_istore dX11_canPlane_48 (by decide) ?_
                refine wp_iconst dX11_canPlane_50 ?_
                refine wp_istore dX11_canPlane_51 (by decide) ?_
                refine wp_iconst dX11_canPlane_53 ?_
                refine wp_istore dX11_canPlane_54 (by decide) ?_
                obtain ⟨W, hW⟩ : ∃ W, W = anyF (fun v => cpB p l (q + 1) (gEH (GM h) q v)) 100 0 := ⟨_, rfl⟩
                rw [anyF, ← hW] at hV
                have K97 : ∀ u : Int, WP X mX11_canPlane (l + 1 + 3) 97 [(0, .ref (adr X 47)), (1, .int (iI p)), (2, .int (iI ((l + 1 : Nat) : Int))), (3, .int (iI f)), (4, .int (iI q)), (5, .int (iI (hI h 52 q.toNat))), (6, .int (iI (b2i (W = true))))] [] (sI h 52 q.toNat u) (fun rv h' => rv = some (.int (iI (b2i (cpB p (l + 1) f (GM h) = true)))) ∧ h' = h) := by
                  intro u
                  refine wp_aload_n dX11_canPlane_97 rfl ?_
                  refine wp_getC dX11_canPlane_98 flX11_37 rfl rfl ?_
                  refine wp_iload dX11_canPlane_101 rfl ?_
                  refine wp_iload dX11_canPlane_103 rfl ?_
                  refine wp_iast (n := 24) dX11_canPlane_105 rfl (by omega) (by omega) ?_
                  rw [sI_sI, sI_self rfl]
                  refine wp_iload dX11_canPlane_106 rfl ?_
                  refine wp_ifeqb 113 dX11_canPlane_108 (by decide) (fun c108 => ?_) (fun c108 => ?_)
                  · refine wp_iinc dX11_canPlane_113 rfl (by decide) ?_
                    refine wp_goto 28 dX11_canPlane_116 (by decide) ?_
                    have c108 : W = false := by cases W with
                      | true => exact absurd rfl c108
                      | false => rfl
                    rw [c108, Bool.false_or] at hV
                    refine wp_loc [(0, .ref (adr X 47)), (1, .int (iI p)), (2, .int (iI ((l + 1 : Nat) : Int))), (3, .int (iI f)), (4, .int (iI (q + 1)))] ⟨rfl, rfl, rfl, rfl, rfl, trivial⟩ ?_
                    exact ihq (q + 1) (by omega) (by omega) hV
                  · refine wp_iconst dX11_canPlane_111 ?_
                    exact wp_zret dX11_canPlane_112 rfl (by omega) (⟨vb1 (by rw [hV, c108]; rfl), rfl⟩)
                have Lcv : ∀ (n2 : Nat) (v u : Int), (v + n2 = 100 ∧ 0 ≤ v) → (v ≤ 100) → (W = anyF (fun v => cpB p l (q + 1) (gEH (GM h) q v)) n2 v) → WP X mX11_canPlane ((l + 1 + 3)) 56 [(0, .ref (adr X 47)), (1, .int (iI p)), (2, .int (iI ((l + 1 : Nat) : Int))), (3, .int (iI f)), (4, .int (iI q)), (5, .int (iI (hI h 52 q.toNat))), (6, .int (iI 0)), (7, .int (iI v))] [] (sI h 52 q.toNat u) (fun rv h' => rv = some (.int (iI (b2i (cpB p (l + 1) f (GM h) = true)))) ∧ h' = h) := by
                  intro n2
                  induction n2 with
                  | zero =>
                    intro v u hv hv2 hU
                    refine wp_iload dX11_canPlane_56 rfl ?_
                    refine wp_bipush dX11_canPlane_58 rfl ?_
                    refine wp_icmpgt 97 dX11_canPlane_60 (by decide) (by unfold InR; omega) (by unfold InR; omega) (fun c60 => ?_) (fun c60 => ?_)
                    · refine wp_loc [(0, .ref (adr X 47)), (1, .int (iI p)), (2, .int (iI ((l + 1 : Nat) : Int))), (3, .int (iI f)), (4, .int (iI q)), (5, .int (iI (hI h 52 q.toNat))), (6, .int (iI 0))] ⟨rfl, rfl, rfl, rfl, rfl, rfl, rfl, trivial⟩ ?_
                      have hU : W = false := hU
                      have q9 := K97 u
                      rw [b2i_f (show ¬ W = true from by rw [hU]; decide)] at q9
                      exact q9
                    · exact absurd c60 (by omega)
                  | succ n2 ihv =>
                    intro v u hv hv2 hU
                    refine wp_iload dX11_canPlane_56 rfl ?_
                    refine wp_bipush dX11_canPlane_58 rfl ?_
                    refine wp_icmpgt 97 dX11_canPlane_60 (by decide) (by unfold InR; omega) (by unfold InR; omega) (fun c60 => ?_) (fun c60 => ?_)
                    · exact absurd c60 (by omega)
                    · refine wp_iload dX11_canPlane_63 rfl ?_
                      refine wp_ifne 97 dX11_canPlane_65 (by decide) (by unfold InR; omega) (fun c65 => ?_) (fun c65 => ?_)
                      · exact absurd rfl c65
                      · refine wp_aload_n dX11_canPlane_68 rfl ?_
                        refine wp_getC dX11_canPlane_69 flX11_37 rfl rfl ?_
                        refine wp_iload dX11_canPlane_72 rfl ?_
                        refine wp_iload dX11_canPlane_74 rfl ?_
                        refine wp_iast (n := 24) dX11_canPlane_76 rfl (by omega) (by omega) ?_
                        rw [sI_sI]
                        have eG := GM_setH2 (h := h) (q := q) (v := v) (by show _ ∧ _ < gP (GM h); omega)
                        rw [anyF] at hU
                        refine wp_aload_n dX11_canPlane_77 rfl ?_
                        refine wp_iload_n dX11_canPlane_78 rfl ?_
                        refine wp_iload_n dX11_canPlane_79 rfl ?_
                        refine wp_iconst dX11_canPlane_80 ?_
                        refine wp_isub dX11_canPlane_81 ?_
                        rw [show ((l + 1 : Nat) : Int) - 1 = ((l : Nat) : Int) by omega]
                        refine wp_iload dX11_canPlane_82 rfl ?_
                        refine wp_iconst dX11_canPlane_84 ?_
                        refine wp_iadd dX11_canPlane_85 ?_
                        refine wp_callVp dX11_canPlane_86 mlX11_407 mvX11_canPlane (ih (q + 1) (sI h 52 q.toNat v) (by omega) (by rw [eG]; exact gEH_b2 g (by omega)) (by rw [eG]; exact hp) (by rw [eG]; show _ ∧ _ ≤ gP (GM h); omega)) rfl rfl (by omega) (by decide) rfl rfl rfl (Nat.le_of_ble_eq_true rfl) ?_
                        rw [eG]
                        by_cases hc : cpB p l (q + 1) (gEH (GM h) q v) = true
                        · rw [b2i_t hc]
                          refine wp_istore dX11_canPlane_89 (by decide) ?_
                          refine wp_iinc dX11_canPlane_91 rfl (by decide) ?_
                          refine wp_goto 56 dX11_canPlane_94 (by decide) ?_
                          refine wp_iload dX11_canPlane_56 rfl ?_
                          refine wp_bipush dX11_canPlane_58 rfl ?_
                          refine wp_icmpgt 97 dX11_canPlane_60 (by decide) (by unfold InR; omega) (by unfold InR; omega) (fun c60 => ?_) (fun c60 => ?_)
                          · refine wp_loc [(0, .ref (adr X 47)), (1, .int (iI p)), (2, .int (iI ((l + 1 : Nat) : Int))), (3, .int (iI f)), (4, .int (iI q)), (5, .int (iI (hI h 52 q.toNat))), (6, .int (iI 1))] ⟨rfl, rfl, rfl, rfl, rfl, rfl, rfl, trivial⟩ ?_
                            have q9 := K97 v
                            rw [b2i_t (show W = true from by rw [hU, hc]; rfl)] at q9
                            exact q9
                          · refine wp_iload dX11_canPlane_63 rfl ?_
                            refine wp_ifne 97 dX11_canPlane_65 (by decide) (by unfold InR; omega) (fun c65 => ?_) (fun c65 => ?_)
                            · refine wp_loc [(0, .ref (adr X 47)), (1, .int (iI p)), (2, .int (iI ((l + 1 : Nat) : Int))), (3, .int (iI f)), (4, .int (iI q)), (5, .int (iI (hI h 52 q.toNat))), (6, .int (iI 1))] ⟨rfl, rfl, rfl, rfl, rfl, rfl, rfl, trivial⟩ ?_
                              have q9 := K97 v
                              rw [b2i_t (show W = true from by rw [hU, hc]; rfl)] at q9
                              exact q9
                            · exact absurd c65 (by decide)
                        · rw [b2i_f hc]
                          have hc : cpB p l (q + 1) (gEH (GM h) q v) = false := by cases hz9 : cpB p l (q + 1) (gEH (GM h) q v) with
                            | true => exact absurd hz9 hc
                            | false => rfl
                          rw [hc, Bool.false_or] at hU
                          refine wp_istore dX11_canPlane_89 (by decide) ?_
                          refine wp_iinc dX11_canPlane_91 rfl (by decide) ?_
                          refine wp_goto 56 dX11_canPlane_94 (by decide) ?_
                          refine wp_loc [(0, .ref (adr X 47)), (1, .int (iI p)), (2, .int (iI ((l + 1 : Nat) : Int))), (3, .int (iI f)), (4, .int (iI q)), (5, .int (iI (hI h 52 q.toNat))), (6, .int (iI 0)), (7, .int (iI (v + 1)))] ⟨rfl, rfl, rfl, rfl, rfl, rfl, rfl, rfl, trivial⟩ ?_
                          exact ihv (v + 1) v (by omega) (by omega) hU
                refine wp_loc [(0, .ref (adr X 47)), (1, .int (iI p)), (2, .int (iI ((l + 1 : Nat) : Int))), (3, .int (iI f)), (4, .int (iI q)), (5, .int (iI (hI h 52 q.toNat))), (6, .int (iI 0)), (7, .int (iI 0))] ⟨rfl, rfl, rfl, rfl, rfl, rfl, rfl, rfl, trivial⟩ ?_
                have q9 := Lcv 100 0 (hI h 52 q.toNat) (by omega) (by omega) hW
                rw [sI_self rfl] at q9
                exact q9
        refine wp_loc [(0, .ref (adr X 47)), (1, .int (iI p)), (2, .int (iI ((l + 1 : Nat) : Int))), (3, .int (iI f)), (4, .int (iI f))] ⟨rfl, rfl, rfl, rfl, rfl, trivial⟩ ?_
        exact Lcq (gP (GM h) - f).toNat f (by omega) (by omega) (by rw [cpB, hz]; rfl)
      · refine wp_iconst dX11_canPlane_23 ?_
        exact wp_zret dX11_canPlane_24 rfl (by omega) (⟨vb1 (by rw [cpB, zrB_t.mpr ⟨c5, c20⟩]; rfl), rfl⟩)

def plF (G : Gdn) (p : Int) : Nat → Nat → Int
  | 0, _ => -1
  | n + 1, k => if cpB p k 0 G = true then (k : Int) else plF G p n (k + 1)

set_option maxRecDepth 20000 in
theorem S_X11_plane {X : Cx} {h : Hp} {σ : Sg} (am : AM h σ) (o : SOK σ) {p : Int} (hp : InR p) : Spec X mX11_plane 60 [.ref (adr X 47), .int (iI p)] h (fun rv h' => rv = some (.int (iI (qPlane σ p))) ∧ AM h' σ ∧ sameC h h') := by
  refine spec_wp (Nat.le_of_ble_eq_true rfl) (by decide +kernel) ?_
  refine wp_loc [(0, .ref (adr X 47)), (1, .int (iI p))] ⟨rfl, rfl, trivial⟩ ?_
  refine wp_aload_n dX11_plane_0 rfl ?_
  refine wp_iconst dX11_plane_1 ?_
  refine wp_putI dX11_plane_2 plX11_95 rfl rfl ?_
  have k0 : KM h (sI h 47 0 0) := KM.sI (by unfold SMx; omega)
  have am := am.km k0
  generalize sI h 47 0 0 = h0 at *
  have gk := o.2.2.2.1
  have gb := gk.b
  have gkb := gk.2.1
  have e4 : hI h0 47 24 = gP (sG σ) := am.2.2.2.2.1.1
  have e5 : hI h0 47 26 = gA (sG σ) := am.2.2.2.2.1.2.1
  have e6 : hI h0 47 27 = gK (sG σ) := am.2.2.2.2.1.2.2.1
  have em : GM h0 = gE (sG σ) := am.gm
  have ep : gP (GM h0) = gP (sG σ) := e4
  obtain ⟨V, hV0⟩ : ∃ V : Int, V = qPlane σ p := ⟨_, rfl⟩
  rw [← hV0]
  unfold qPlane at hV0
  refine wp_aload_n dX11_plane_5 rfl ?_
  refine wp_iload_n dX11_plane_6 rfl ?_
  refine wp_callVp dX11_plane_7 mlX11_290 mvX11_isTurning (S_X11_isTurning (by omega) (by first | assumption | (unfold InR; omega))) rfl rfl (by decide) (by decide) rfl rfl rfl (Nat.le_of_ble_eq_true rfl) ?_
  refine wp_ifneb 15 dX11_plane_10 (by decide) (fun c10 => ?_) (fun c10 => ?_)
  · refine wp_iconst dX11_plane_15 ?_
    refine wp_istore_n dX11_plane_16 (by decide) ?_
    have Lpl : ∀ (n : Nat) (k : Nat), (k + n = 3) → (V = plF (GM h0) p n k) → WP X mX11_plane 60 17 [(0, .ref (adr X 47)), (1, .int (iI p)), (2, .int (iI (k : Int)))] [] h0 (fun rv h' => rv = some (.int (iI V)) ∧ AM h' σ ∧ sameC h h') := by
      intro n
      induction n with
      | zero =>
        intro k hn hV
        refine wp_iload_n dX11_plane_17 rfl ?_
        refine wp_iconst dX11_plane_18 ?_
        refine wp_icmpge 40 dX11_plane_19 (by decide) (by unfold InR; omega) (by unfold InR; omega) (fun c19 => ?_) (fun c19 => ?_)
        · refine wp_iconst dX11_plane_40 ?_
          exact wp_iret dX11_plane_41 rfl (⟨vi (by rw [hV]; rfl), am, k0.C⟩)
        · exact absurd c19 (by omega)
      | succ n ih =>
        intro k hn hV
        refine wp_iload_n dX11_plane_17 rfl ?_
        refine wp_iconst dX11_plane_18 ?_
        refine wp_icmpge 40 dX11_plane_19 (by decide) (by unfold InR; omega) (by unfold InR; omega) (fun c19 => ?_) (fun c19 => ?_)
        · exact absurd c19 (by omega)
        · rw [plF] at hV
          refine wp_aload_n dX11_plane_22 rfl ?_
          refine wp_iload_n dX11_plane_23 rfl ?_
          refine wp_iload_n dX11_plane_24 rfl ?_
          refine wp_iconst dX11_plane_25 ?_
          refine wp_callVp dX11_plane_26 mlX11_407 mvX11_canPlane (S_X11_canPlane (p := p) k 0 h0 (by omega) (am.b2 o (by omega)) (by omega) (by omega)) rfl rfl (by omega) (by decide) rfl rfl rfl (Nat.le_of_ble_eq_true rfl) ?_
          refine wp_ifeqb 34 dX11_plane_29 (by decide) (fun c29 => ?_) (fun c29 => ?_)
          · refine wp_iinc dX11_plane_34 rfl (by decide) ?_
            refine wp_goto 17 dX11_plane_37 (by decide) ?_
            rw [if_neg c29] at hV
            refine wp_loc [(0, .ref (adr X 47)), (1, .int (iI p)), (2, .int (iI ((k + 1 : Nat) : Int)))] ⟨rfl, rfl, rfl, trivial⟩ ?_
            exact ih (k + 1) (by omega) hV
          · refine wp_iload_n dX11_plane_32 rfl ?_
            exact wp_iret dX11_plane_33 rfl (⟨vi (by rw [hV, if_pos c29]), am, k0.C⟩)
    refine wp_loc [(0, .ref (adr X 47)), (1, .int (iI p)), (2, .int (iI ((0 : Nat) : Int)))] ⟨rfl, rfl, rfl, trivial⟩ ?_
    exact Lpl 3 0 (by omega) (by rw [hV0, if_pos (by omega)]; have q := plane_ok (am.b2 o (by omega)) (p := p) (by omega); rw [em] at q ⊢; exact q.symm)
  · refine wp_iconst dX11_plane_13 ?_
    exact wp_iret dX11_plane_14 rfl (⟨vi (by rw [hV0, if_neg (by omega)]), am, k0.C⟩)

theorem stb_cg {γ δ : Int → Int} {P q : Int} (h : ∀ p, 0 ≤ p → p < P → γ p = δ p) (hq : 0 ≤ q ∧ q < P) : stb γ P q = stb δ P q := by
  have nb := arnd_b (P := P) (p := q + 1) (by omega)
  unfold stb
  rw [h q hq.1 hq.2, h (nx P q) nb.1 nb.2]
theorem fwF_cg {γ δ : Int → Int} {P fr sp : Int} (h : ∀ p, 0 ≤ p → p < P → γ p = δ p) (hf : 0 ≤ fr ∧ fr < P) : ∀ (n : Nat) (w : Int), 0 ≤ w → w + n ≤ P → fwF γ P fr sp n w = fwF δ P fr sp n w
  | 0, w, _, _ => rfl
  | n + 1, w, h0, h1 => by
    have nb := arnd_b (P := P) (p := fr + w) (by omega)
    rw [fwF, fwF, stb_cg h nb, h _ nb.1 nb.2, fwF_cg h hf n (w + 1) (by omega) (by omega)]
def STR (c j : Nat) : Prop := c = 52 ∨ STH c j
theorem tr_gap {h2 : Hp} {σ : Sg} {x : Int64} {m : Int} (o : SOK σ) (hp : 0 < gP (sG σ)) (e24 : hI h2 47 24 = gP (sG σ)) (e26 : hI h2 47 26 = gA (sG σ)) (es : sM h2 = gS (sG σ)) (hm : 0 ≤ m ∧ m ≤ 99) : GB2 (GM (drH h2 x (m + 1) (gP (sG σ)).toNat)) ∧ gP (GM (drH h2 x (m + 1) (gP (sG σ)).toNat)) = gP (sG σ) ∧ ∀ p, 0 ≤ p → p < gP (sG σ) → gapF (GM (drH h2 x (m + 1) (gP (sG σ)).toNat)) p = gapD (sG σ) x (m + 1) p := by
  have gb := o.2.2.2.1.b
  have a24 : hI (drH h2 x (m + 1) (gP (sG σ)).toNat) 47 24 = gP (sG σ) := by rw [drH_I (by decide)]; exact e24
  have a26 : hI (drH h2 x (m + 1) (gP (sG σ)).toNat) 47 26 = gA (sG σ) := by rw [drH_I (by decide)]; exact e26
  have as : sM (drH h2 x (m + 1) (gP (sG σ)).toNat) = gS (sG σ) := by rw [sM_eq (h := h2) (fun i => drH_I (by decide))]; exact es
  have ah : ∀ i, 0 ≤ i → i < gP (sG σ) → hM (drH h2 x (m + 1) (gP (sG σ)).toNat) i = dval x (m + 1) i.toNat := fun i i0 i1 => by
    unfold hM
    rw [a24, if_pos ⟨i0, i1⟩, drH_in (by omega)]
  have ah0 : ∀ i, ¬ (0 ≤ i ∧ i < gP (sG σ)) → hM (drH h2 x (m + 1) (gP (sG σ)).toNat) i = 0 := fun i q => by
    unfold hM
    rw [a24, if_neg q]
  refine ⟨⟨?_, ?_, fun i => ?_, fun l => ?_⟩, a24, fun p p0 p1 => ?_⟩
  · show 4 ≤ hI _ 47 24 ∧ hI _ 47 24 ≤ 24 ∧ hI _ 47 24 % 2 = 0; rw [e24]; omega
  · show 1 ≤ hI _ 47 26 ∧ 2 * hI _ 47 26 < hI _ 47 24; rw [e24, e26]; omega
  · show 0 ≤ hM _ i ∧ hM _ i ≤ 99
    by_cases q : 0 ≤ i ∧ i < gP (sG σ)
    · rw [ah i q.1 q.2]
      have := drw_b (xk x (i.toNat + 1)) (m := m + 1) (by omega)
      show 0 ≤ drw _ _ ∧ drw _ _ ≤ 99
      omega
    · rw [ah0 i q]; omega
  · show 0 ≤ sM _ l ∧ sM _ l ≤ 99; rw [as]; exact o.2.2.2.1.s l
  · unfold gapF gapD lnF
    show ggap (hM (drH h2 x (m + 1) (gP (sG σ)).toNat)) (hI (drH h2 x (m + 1) (gP (sG σ)).toNat) 47 24) (hI (drH h2 x (m + 1) (gP (sG σ)).toNat) 47 26) p - (sM (drH h2 x (m + 1) (gP (sG σ)).toNat) 0 + sM (drH h2 x (m + 1) (gP (sG σ)).toNat) 2 - sM (drH h2 x (m + 1) (gP (sG σ)).toNat) 1 - sM (drH h2 x (m + 1) (gP (sG σ)).toNat) 3) = _
    rw [a24, a26, as, ggap_eq (K := fun i => dval x (m + 1) i.toNat) (by omega) (by omega) ⟨p0, p1⟩ ah]

theorem wi_0 {γ : Int → Int} {P sp : Int} (hP : 0 < P) (hsp : 0 ≤ sp ∧ sp ≤ P) : wiF γ P 0 sp 0 = fwF γ P 0 sp (min (sp + 1) P).toNat 0 := by
  unfold wiF
  rw [if_pos ⟨⟨by omega, hP⟩, hsp, by decide, by decide⟩]
  split
  · rename_i e; exact e.symm
  · rfl
theorem drH_out {h : Hp} {x : Int64} {m : Int} {k j : Nat} (hj : k ≤ j) : hI (drH h x m k) 52 j = hI h 52 j := by unfold drH; rw [hI_sA, if_pos rfl, if_neg (by omega)]
theorem drKp {x : Int64} {m : Int} {k : Nat} (h : Hp) : Kp STR h (drH h x m k) := ⟨fun c j hc => drH_I (fun e => hc (Or.inl e)), rfl⟩

set_option maxRecDepth 20000 in
theorem S_X11_trial {X : Cx} {h : Hp} {σ : Sg} (am : AM h σ) (o : SOK σ) {n0 : Int} {x0 : Int64} {m sp : Int} (hn0 : InR n0) (hm0 : InR m) (hsp0 : InR sp) : Spec X mX11_trial 62 [.ref (adr X 47), .int (iI n0), .long x0, .int (iI m), .int (iI sp)] h (fun rv h' => rv = some (.int (iI (qTrial σ n0 x0 m sp))) ∧ AM h' σ ∧ sameC h h') := by
  refine spec_wp (Nat.le_of_ble_eq_true rfl) (by decide +kernel) ?_
  refine wp_loc [(0, .ref (adr X 47)), (1, .int (iI n0)), (2, .long x0), (4, .int (iI m)), (5, .int (iI sp))] ⟨rfl, rfl, rfl, rfl, rfl, trivial⟩ ?_
  refine wp_aload_n dX11_trial_0 rfl ?_
  refine wp_iconst dX11_trial_1 ?_
  refine wp_putI dX11_trial_2 plX11_95 rfl rfl ?_
  have k0 : KM h (sI h 47 0 0) := KM.sI (by unfold SMx; omega)
  have am := am.km k0
  generalize sI h 47 0 0 = h0 at *
  have gk := o.2.2.2.1
  have gb := gk.b
  have gkb := gk.2.1
  have e4 : hI h0 47 24 = gP (sG σ) := am.2.2.2.2.1.1
  have e5 : hI h0 47 26 = gA (sG σ) := am.2.2.2.2.1.2.1
  have e6 : hI h0 47 27 = gK (sG σ) := am.2.2.2.2.1.2.2.1
  have em : GM h0 = gE (sG σ) := am.gm
  have ep : gP (GM h0) = gP (sG σ) := e4
  obtain ⟨V, hV0⟩ : ∃ V : Int, V = qTrial σ n0 x0 m sp := ⟨_, rfl⟩
  rw [← hV0]
  unfold qTrial at hV0
  refine wp_aload_n dX11_trial_5 rfl ?_
  refine wp_getI dX11_trial_6 flX11_272 rfl rfl ?_
  refine wp_ifeq 52 dX11_trial_9 (by decide) (by first | assumption | (unfold InR; omega)) (fun c9 => ?_) (fun c9 => ?_)
  · refine wp_iconst dX11_trial_52 ?_
    exact wp_iret dX11_trial_53 rfl (⟨vi (by rw [hV0, if_neg (by omega)]), am, k0.C⟩)
  · refine wp_iload_n dX11_trial_12 rfl ?_
    refine wp_i2lI dX11_trial_13 (by first | assumption | (unfold InR; omega)) ?_
    refine wp_lconst (v := 1) dX11_trial_14 rfl ?_
    refine wp_ldc2 (v := 50) dX11_trial_15 klX11_389 ?_
    refine wp_callSp dX11_trial_18 mlX11_219 msX11_isIn (S_X11_isIn (a := n0) (b := 1) (c := 50) (by first | (exact InR.L (by assumption)) | (unfold InL; omega)) (by unfold InL; omega) (by unfold InL; omega)) rfl rfl (by decide) (by decide) (Nat.le_of_ble_eq_true rfl) ?_
    refine wp_ifeqb 52 dX11_trial_21 (by decide) (fun c21 => ?_) (fun c21 => ?_)
    · refine wp_iconst dX11_trial_52 ?_
      exact wp_iret dX11_trial_53 rfl (⟨vi (by rw [hV0, if_neg (by omega)]), am, k0.C⟩)
    · refine wp_iload dX11_trial_24 rfl ?_
      refine wp_i2lI dX11_trial_26 (by first | assumption | (unfold InR; omega)) ?_
      refine wp_lconst (v := 0) dX11_trial_27 rfl ?_
      refine wp_ldc2 (v := 99) dX11_trial_28 klX11_376 ?_
      refine wp_callSp dX11_trial_31 mlX11_219 msX11_isIn (S_X11_isIn (a := m) (b := 0) (c := 99) (by first | (exact InR.L (by assumption)) | (unfold InL; omega)) (by unfold InL; omega) (by unfold InL; omega)) rfl rfl (by decide) (by decide) (Nat.le_of_ble_eq_true rfl) ?_
      refine wp_ifeqb 52 dX11_trial_34 (by decide) (fun c34 => ?_) (fun c34 => ?_)
      · refine wp_iconst dX11_trial_52 ?_
        exact wp_iret dX11_trial_53 rfl (⟨vi (by rw [hV0, if_neg (by omega)]), am, k0.C⟩)
      · refine wp_iload dX11_trial_37 rfl ?_
        refine wp_i2lI dX11_trial_39 (by first | assumption | (unfold InR; omega)) ?_
        refine wp_lconst (v := 0) dX11_trial_40 rfl ?_
        refine wp_aload_n dX11_trial_41 rfl ?_
        refine wp_getI dX11_trial_42 flX11_272 rfl rfl ?_
        refine wp_i2lI dX11_trial_45 (by first | assumption | (unfold InR; omega)) ?_
        refine wp_callSp dX11_trial_46 mlX11_219 msX11_isIn (S_X11_isIn (a := sp) (b := 0) (c := (hI h0 47 24)) (by first | (exact InR.L (by assumption)) | (unfold InL; omega)) (by unfold InL; omega) (by unfold InL; omega)) rfl rfl (by decide) (by decide) (Nat.le_of_ble_eq_true rfl) ?_
        refine wp_ifneb 54 dX11_trial_49 (by decide) (fun c49 => ?_) (fun c49 => ?_)
        · refine wp_iconst dX11_trial_54 ?_
          refine wp_istore dX11_trial_55 (by decide) ?_
          have K84 : WP X mX11_trial 62 84 [(0, .ref (adr X 47)), (1, .int (iI n0)), (2, .long x0), (4, .int (iI m)), (5, .int (iI sp)), (6, .int (iI ((24 : Nat) : Int)))] [] (cpy h0 52 0 65 0 24) (fun rv h' => rv = some (.int (iI V)) ∧ AM h' σ ∧ sameC h h') := by
            have Ltm : ∀ (n : Nat) (z cc : Int) (x : Int64) (h2 : Hp), (z + n = n0 ∧ 0 ≤ z) → (Kp STR (cpy h0 52 0 65 0 24) h2) → (∀ j : Nat, 24 ≤ j → hI h2 52 j = hI h0 52 j) → (V = trF (sG σ) (m + 1) sp n x cc) → WP X mX11_trial 62 93 [(0, .ref (adr X 47)), (1, .int (iI n0)), (2, .long x0), (4, .int (iI m)), (5, .int (iI sp)), (6, .int (iI cc)), (7, .long x), (9, .int (iI z))] [] h2 (fun rv h' => rv = some (.int (iI V)) ∧ AM h' σ ∧ sameC h h') := by
              intro n
              induction n with
              | zero =>
                intro z cc x h2 hn kp hout hV
                have e24 : hI h2 47 24 = gP (sG σ) := by rw [kp.1 47 24 (by unfold STR STH SST; omega), cpy_I (by decide)]; exact e4
                have e26 : hI h2 47 26 = gA (sG σ) := by rw [kp.1 47 26 (by unfold STR STH SST; omega), cpy_I (by decide)]; exact e5
                have es : sM h2 = gS (sG σ) := by rw [sM_eq (h := h0) (fun i => by rw [kp.1 54 i (by unfold STR STH SST; omega), cpy_I (by decide)])]; exact am.2.2.2.2.1.2.2.2.2.1
                refine wp_iload dX11_trial_93 rfl ?_
                refine wp_iload_n dX11_trial_95 rfl ?_
                refine wp_icmpge 176 dX11_trial_96 (by decide) (by first | assumption | (unfold InR; omega)) (by first | assumption | (unfold InR; omega)) (fun c96 => ?_) (fun c96 => ?_)
                · refine wp_iconst dX11_trial_176 ?_
                  refine wp_istore dX11_trial_177 (by decide) ?_
                  have hV : V = cc := hV
                  have K206 : WP X mX11_trial 62 206 [(0, .ref (adr X 47)), (1, .int (iI n0)), (2, .long x0), (4, .int (iI m)), (5, .int (iI sp)), (6, .int (iI cc)), (9, .int (iI ((24 : Nat) : Int)))] [] (cpy h2 65 0 52 0 24) (fun rv h' => rv = some (.int (iI V)) ∧ AM h' σ ∧ sameC h h') := by
                    refine wp_iload dX11_trial_206 rfl ?_
                    exact wp_iret dX11_trial_208 rfl (by
                    have k9 : KM h0 (cpy h2 65 0 52 0 24) := by
                      refine ⟨fun c j q => ?_, fun c hc => by show h2.2.1 c = _; rw [kp.2]; rfl, fun c j hc => by show h2.2.2 c j = _; rw [kp.2]; rfl, Or.inl (by show h2.2.2 47 5 = _; rw [kp.2]; rfl)⟩
                      by_cases e : c = 52
                      · subst e
                        by_cases e2 : j < 24
                        · rw [cpy_in (by omega) (by omega), kp.1 65 _ (by unfold STR STH SST; omega), cpy_in (by omega) (by omega)]; congr 1; omega
                        · rw [cpy_out (by omega)]; exact hout j (by omega)
                      · rw [cpy_I e, kp.1 c j (by unfold STR STH SST; unfold SMx at q; omega), cpy_I (by unfold SMx at q; omega)]
                    exact ⟨vi hV.symm, am.km k9, (k0.tr k9).C⟩)
                  have Ltr : ∀ (n : Nat) (k : Nat), (k + n = 24) → WP X mX11_trial 62 179 [(0, .ref (adr X 47)), (1, .int (iI n0)), (2, .long x0), (4, .int (iI m)), (5, .int (iI sp)), (6, .int (iI cc)), (9, .int (iI (k : Int)))] [] (cpy h2 65 0 52 0 k) (fun rv h' => rv = some (.int (iI V)) ∧ AM h' σ ∧ sameC h h') := by
                    intro n
                    induction n with
                    | zero =>
                      intro k hk
                      refine wp_iload dX11_trial_179 rfl ?_
                      refine wp_bipush dX11_trial_181 rfl ?_
                      refine wp_icmpge 206 dX11_trial_183 (by decide) (by unfold InR; omega) (by unfold InR; omega) (fun c183 => ?_) (fun c183 => ?_)
                      · rw [show k = 24 by omega]
                        exact K206
                      · exact absurd c183 (by omega)
                    | succ n ih =>
                      intro k hk
                      refine wp_iload dX11_trial_179 rfl ?_
                      refine wp_bipush dX11_trial_181 rfl ?_
                      refine wp_icmpge 206 dX11_trial_183 (by decide) (by unfold InR; omega) (by unfold InR; omega) (fun c183 => ?_) (fun c183 => ?_)
                      · exact absurd c183 (by omega)
                      · refine wp_aload_n dX11_trial_186 rfl ?_
                        refine wp_getC dX11_trial_187 flX11_37 rfl rfl ?_
                        refine wp_iload dX11_trial_190 rfl ?_
                        refine wp_aload_n dX11_trial_192 rfl ?_
                        refine wp_getC dX11_trial_193 flX11_80 rfl rfl ?_
                        refine wp_iload dX11_trial_196 rfl ?_
                        refine wp_iald dX11_trial_198 rfl (by omega) (by omega) ?_
                        rw [show (((k : Nat) : Int)).toNat = 0 + k by omega, cpy_I (by decide)]
                        refine wp_iast dX11_trial_199 rfl (by omega) (by omega) ?_
                        rw [show (((k : Nat) : Int)).toNat = 0 + k by omega, cpy_s]
                        refine wp_iinc dX11_trial_200 rfl (by decide) ?_
                        refine wp_goto 179 dX11_trial_203 (by decide) ?_
                        refine wp_loc [(0, .ref (adr X 47)), (1, .int (iI n0)), (2, .long x0), (4, .int (iI m)), (5, .int (iI sp)), (6, .int (iI cc)), (9, .int (iI ((k + 1 : Nat) : Int)))] ⟨rfl, rfl, rfl, rfl, rfl, rfl, rfl, trivial⟩ ?_
                        exact ih (k + 1) (by omega)
                  refine wp_loc [(0, .ref (adr X 47)), (1, .int (iI n0)), (2, .long x0), (4, .int (iI m)), (5, .int (iI sp)), (6, .int (iI cc)), (9, .int (iI ((0 : Nat) : Int)))] ⟨rfl, rfl, rfl, rfl, rfl, rfl, rfl, trivial⟩ ?_
                  have q := Ltr 24 0 (by omega)
                  rw [cpy_0] at q
                  exact q
                · exact absurd c96 (by omega)
              | succ n ih =>
                intro z cc x h2 hn kp hout hV
                have e24 : hI h2 47 24 = gP (sG σ) := by rw [kp.1 47 24 (by unfold STR STH SST; omega), cpy_I (by decide)]; exact e4
                have e26 : hI h2 47 26 = gA (sG σ) := by rw [kp.1 47 26 (by unfold STR STH SST; omega), cpy_I (by decide)]; exact e5
                have es : sM h2 = gS (sG σ) := by rw [sM_eq (h := h0) (fun i => by rw [kp.1 54 i (by unfold STR STH SST; omega), cpy_I (by decide)])]; exact am.2.2.2.2.1.2.2.2.2.1
                refine wp_iload dX11_trial_93 rfl ?_
                refine wp_iload_n dX11_trial_95 rfl ?_
                refine wp_icmpge 176 dX11_trial_96 (by decide) (by first | assumption | (unfold InR; omega)) (by first | assumption | (unfold InR; omega)) (fun c96 => ?_) (fun c96 => ?_)
                · exact absurd c96 (by omega)
                · refine wp_iconst dX11_trial_99 ?_
                  refine wp_istore dX11_trial_100 (by decide) ?_
                  have K148 : WP X mX11_trial 62 148 [(0, .ref (adr X 47)), (1, .int (iI n0)), (2, .long x0), (4, .int (iI m)), (5, .int (iI sp)), (6, .int (iI cc)), (7, .long (xk x (gP (sG σ)).toNat)), (9, .int (iI z)), (10, .int (iI (((gP (sG σ)).toNat : Nat) : Int)))] [] (drH h2 x (m + 1) (gP (sG σ)).toNat) (fun rv h' => rv = some (.int (iI V)) ∧ AM h' σ ∧ sameC h h') := by
                    obtain ⟨tg1, tg2, tg3⟩ := tr_gap (h2 := h2) (x := x) (m := m) o (by omega) e24 e26 es (by omega)
                    have fe := fwF_cg (sp := sp) (fr := 0) tg3 (by omega) (min (sp + 1) (gP (sG σ))).toNat 0 (by omega) (by omega)
                    have fb := fwF_b (gapD (sG σ) x (m + 1)) (gP (sG σ)) 0 sp (by omega) (min (sp + 1) (gP (sG σ))).toNat 0 (by omega) (by omega)
                    rw [trF] at hV
                    refine wp_iload dX11_trial_148 rfl ?_
                    refine wp_aload_n dX11_trial_150 rfl ?_
                    refine wp_iconst dX11_trial_151 ?_
                    refine wp_iload dX11_trial_152 rfl ?_
                    refine wp_iconst dX11_trial_154 ?_
                    refine wp_callV dX11_trial_155 mlX11_395 mvX11_within_ (S_X11_within_ (γ := gapF (GM (drH h2 x (m + 1) (gP (sG σ)).toNat))) (P := gP (sG σ)) (p := 0) (sp := sp) (w := 0) (Or.inr tg1) rfl tg2.symm (by unfold InR; omega) hsp0 (by unfold InR; omega) rfl) rfl rfl (by decide) (by decide) rfl rfl rfl (Nat.le_of_ble_eq_true rfl) ?_
                    rintro rv h3 ⟨rfl, kp3⟩
                    rw [wi_0 (by omega) (by omega), fe]
                    refine wp_iconst dX11_trial_158 ?_
                    refine wp_icmpne 166 dX11_trial_159 (by decide) (by unfold InR; omega) (by unfold InR; omega) (fun c159 => ?_) (fun c159 => ?_)
                    · refine wp_iconst dX11_trial_166 ?_
                      rw [if_neg c159] at hV
                      refine wp_iadd dX11_trial_167 ?_
                      refine wp_istore dX11_trial_168 (by decide) ?_
                      refine wp_iinc dX11_trial_170 rfl (by decide) ?_
                      refine wp_goto 93 dX11_trial_173 (by decide) ?_
                      refine wp_loc [(0, .ref (adr X 47)), (1, .int (iI n0)), (2, .long x0), (4, .int (iI m)), (5, .int (iI sp)), (6, .int (iI (cc + 1))), (7, .long (xk x (gP (sG σ)).toNat)), (9, .int (iI (z + 1)))] ⟨rfl, rfl, rfl, rfl, rfl, rfl, rfl, rfl, trivial⟩ ?_
                      exact ih (z + 1) (cc + 1) _ h3 (by omega) (kp.tr ((drKp h2).tr (kp3.mono (fun c j q => Or.inr q)))) (fun j hj => by rw [kp3.1 52 j (by unfold STH SST; omega), drH_out (by omega)]; exact hout j hj) (by rw [hV])
                    · refine wp_iconst dX11_trial_162 ?_
                      refine wp_goto 167 dX11_trial_163 (by decide) ?_
                      rw [if_pos c159] at hV
                      refine wp_iadd dX11_trial_167 ?_
                      refine wp_istore dX11_trial_168 (by decide) ?_
                      refine wp_iinc dX11_trial_170 rfl (by decide) ?_
                      refine wp_goto 93 dX11_trial_173 (by decide) ?_
                      refine wp_loc [(0, .ref (adr X 47)), (1, .int (iI n0)), (2, .long x0), (4, .int (iI m)), (5, .int (iI sp)), (6, .int (iI (cc + 0))), (7, .long (xk x (gP (sG σ)).toNat)), (9, .int (iI (z + 1)))] ⟨rfl, rfl, rfl, rfl, rfl, rfl, rfl, rfl, trivial⟩ ?_
                      exact ih (z + 1) (cc + 0) _ h3 (by omega) (kp.tr ((drKp h2).tr (kp3.mono (fun c j q => Or.inr q)))) (fun j hj => by rw [kp3.1 52 j (by unfold STH SST; omega), drH_out (by omega)]; exact hout j hj) (by rw [hV]; congr 1; omega)
                  have Ltd : ∀ (n : Nat) (k : Nat), (k + n = (gP (sG σ)).toNat) → WP X mX11_trial 62 102 [(0, .ref (adr X 47)), (1, .int (iI n0)), (2, .long x0), (4, .int (iI m)), (5, .int (iI sp)), (6, .int (iI cc)), (7, .long (xk x k)), (9, .int (iI z)), (10, .int (iI (k : Int)))] [] (drH h2 x (m + 1) k) (fun rv h' => rv = some (.int (iI V)) ∧ AM h' σ ∧ sameC h h') := by
                    intro n
                    induction n with
                    | zero =>
                      intro k hk
                      refine wp_iload dX11_trial_102 rfl ?_
                      refine wp_aload_n dX11_trial_104 rfl ?_
                      refine wp_getI dX11_trial_105 flX11_272 rfl rfl ?_
                      rw [drH_I (by decide), e24]
                      refine wp_icmpge 148 dX11_trial_108 (by decide) (by unfold InR; omega) (by unfold InR; omega) (fun c108 => ?_) (fun c108 => ?_)
                      · rw [show k = (gP (sG σ)).toNat by omega]
                        exact K148
                      · exact absurd c108 (by omega)
                    | succ n ih =>
                      intro k hk
                      refine wp_iload dX11_trial_102 rfl ?_
                      refine wp_aload_n dX11_trial_104 rfl ?_
                      refine wp_getI dX11_trial_105 flX11_272 rfl rfl ?_
                      rw [drH_I (by decide), e24]
                      refine wp_icmpge 148 dX11_trial_108 (by decide) (by unfold InR; omega) (by unfold InR; omega) (fun c108 => ?_) (fun c108 => ?_)
                      · exact absurd c108 (by omega)
                      · refine wp_lload dX11_trial_111 rfl ?_
                        refine wp_ldc2 (v := 6364136223846793005) dX11_trial_113 klX11_391 ?_
                        refine wp_lmul dX11_trial_116 ?_
                        refine wp_ldc2 (v := 1442695040888963407) dX11_trial_117 klX11_393 ?_
                        refine wp_ladd dX11_trial_120 ?_
                        rw [show xk x k * 6364136223846793005 + 1442695040888963407 = xk x (k + 1) from rfl]
                        refine wp_lstore dX11_trial_121 (by decide) ?_
                        refine wp_aload_n dX11_trial_123 rfl ?_
                        refine wp_getC dX11_trial_124 flX11_37 rfl rfl ?_
                        refine wp_iload dX11_trial_127 rfl ?_
                        refine wp_lload dX11_trial_129 rfl ?_
                        refine wp_bipush dX11_trial_131 rfl ?_
                        refine wp_lushr dX11_trial_133 ?_
                        refine wp_iload dX11_trial_134 rfl ?_
                        refine wp_iconst dX11_trial_136 ?_
                        refine wp_iadd dX11_trial_137 ?_
                        refine wp_i2l dX11_trial_138 ?_
                        refine wp_lrem dX11_trial_139 (fun q => by rw [i2l_I (by unfold InR; omega)] at q; have := (lI_eq (a := m + 1) (b := 0) (by unfold InL; omega) (by unfold InL; omega)).mp q; omega) ?_
                        refine wp_l2i dX11_trial_140 ?_
                        rw [drw_v _ (by omega)]
                        refine wp_iast (n := 24) dX11_trial_141 rfl (by omega) (by omega) ?_
                        rw [show (((k : Nat) : Int)).toNat = k by omega, drH_s]
                        refine wp_iinc dX11_trial_142 rfl (by decide) ?_
                        refine wp_goto 102 dX11_trial_145 (by decide) ?_
                        refine wp_loc [(0, .ref (adr X 47)), (1, .int (iI n0)), (2, .long x0), (4, .int (iI m)), (5, .int (iI sp)), (6, .int (iI cc)), (7, .long (xk x (k + 1))), (9, .int (iI z)), (10, .int (iI ((k + 1 : Nat) : Int)))] ⟨rfl, rfl, rfl, rfl, rfl, rfl, rfl, rfl, rfl, trivial⟩ ?_
                        exact ih (k + 1) (by omega)
                  refine wp_loc [(0, .ref (adr X 47)), (1, .int (iI n0)), (2, .long x0), (4, .int (iI m)), (5, .int (iI sp)), (6, .int (iI cc)), (7, .long (xk x 0)), (9, .int (iI z)), (10, .int (iI ((0 : Nat) : Int)))] ⟨rfl, rfl, rfl, rfl, rfl, rfl, rfl, rfl, rfl, trivial⟩ ?_
                  have q := Ltd (gP (sG σ)).toNat 0 (by omega)
                  rw [drH_0] at q
                  exact q
            refine wp_iconst dX11_trial_84 ?_
            refine wp_istore dX11_trial_85 (by decide) ?_
            refine wp_lload_n dX11_trial_87 rfl ?_
            refine wp_lstore dX11_trial_88 (by decide) ?_
            refine wp_iconst dX11_trial_90 ?_
            refine wp_istore dX11_trial_91 (by decide) ?_
            refine wp_loc [(0, .ref (adr X 47)), (1, .int (iI n0)), (2, .long x0), (4, .int (iI m)), (5, .int (iI sp)), (6, .int (iI 0)), (7, .long x0), (9, .int (iI 0))] ⟨rfl, rfl, rfl, rfl, rfl, rfl, rfl, rfl, trivial⟩ ?_
            exact Ltm n0.toNat 0 0 x0 _ (by omega) (Kp.rf _) (fun j hj => by rw [cpy_I (by decide)]) (by rw [hV0, if_pos (by omega)])
          have Ltk : ∀ (n : Nat) (k : Nat), (k + n = 24) → WP X mX11_trial 62 57 [(0, .ref (adr X 47)), (1, .int (iI n0)), (2, .long x0), (4, .int (iI m)), (5, .int (iI sp)), (6, .int (iI (k : Int)))] [] (cpy h0 52 0 65 0 k) (fun rv h' => rv = some (.int (iI V)) ∧ AM h' σ ∧ sameC h h') := by
            intro n
            induction n with
            | zero =>
              intro k hk
              refine wp_iload dX11_trial_57 rfl ?_
              refine wp_bipush dX11_trial_59 rfl ?_
              refine wp_icmpge 84 dX11_trial_61 (by decide) (by unfold InR; omega) (by unfold InR; omega) (fun c61 => ?_) (fun c61 => ?_)
              · rw [show k = 24 by omega]
                exact K84
              · exact absurd c61 (by omega)
            | succ n ih =>
              intro k hk
              refine wp_iload dX11_trial_57 rfl ?_
              refine wp_bipush dX11_trial_59 rfl ?_
              refine wp_icmpge 84 dX11_trial_61 (by decide) (by unfold InR; omega) (by unfold InR; omega) (fun c61 => ?_) (fun c61 => ?_)
              · exact absurd c61 (by omega)
              · refine wp_aload_n dX11_trial_64 rfl ?_
                refine wp_getC dX11_trial_65 flX11_80 rfl rfl ?_
                refine wp_iload dX11_trial_68 rfl ?_
                refine wp_aload_n dX11_trial_70 rfl ?_
                refine wp_getC dX11_trial_71 flX11_37 rfl rfl ?_
                refine wp_iload dX11_trial_74 rfl ?_
                refine wp_iald dX11_trial_76 rfl (by omega) (by omega) ?_
                rw [show (((k : Nat) : Int)).toNat = 0 + k by omega, cpy_I (by decide)]
                refine wp_iast dX11_trial_77 rfl (by omega) (by omega) ?_
                rw [show (((k : Nat) : Int)).toNat = 0 + k by omega, cpy_s]
                refine wp_iinc dX11_trial_78 rfl (by decide) ?_
                refine wp_goto 57 dX11_trial_81 (by decide) ?_
                refine wp_loc [(0, .ref (adr X 47)), (1, .int (iI n0)), (2, .long x0), (4, .int (iI m)), (5, .int (iI sp)), (6, .int (iI ((k + 1 : Nat) : Int)))] ⟨rfl, rfl, rfl, rfl, rfl, rfl, trivial⟩ ?_
                exact ih (k + 1) (by omega)
          refine wp_loc [(0, .ref (adr X 47)), (1, .int (iI n0)), (2, .long x0), (4, .int (iI m)), (5, .int (iI sp)), (6, .int (iI ((0 : Nat) : Int)))] ⟨rfl, rfl, rfl, rfl, rfl, rfl, trivial⟩ ?_
          have q := Ltk 24 0 (by omega)
          rw [cpy_0] at q
          exact q
        · refine wp_iconst dX11_trial_52 ?_
          exact wp_iret dX11_trial_53 rfl (⟨vi (by rw [hV0, if_neg (by omega)]), am, k0.C⟩)

