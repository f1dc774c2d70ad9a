/-! the reference: fault, text -/
set_option maxRecDepth 20000 in
theorem S_X11_fault0 {X : Cx} {h : Hp} {σ : Sg} (am : AM h σ) (o : SOK σ) {s : Int} (hs : InR s) : Spec X mX11_fault 40 [.ref (adr X 47), .int (iI s)] h (fun rv h' => rv = some (.int (iI (rFault σ s))) ∧ KM h h' ∧ (s = 0 → ∀ G, gRd (sT σ) = .inr G → ∃ q, G = gOf q ∧ GSOK q ∧ DM h' q)) := by
  refine spec_wp (Nat.le_of_ble_eq_true rfl) (by decide +kernel) ?_
  refine wp_loc [(0, .ref (adr X 47)), (1, .int (iI s))] ⟨rfl, rfl, trivial⟩ ?_
  refine wp_aload_n dX11_fault_0 rfl ?_
  refine wp_iconst dX11_fault_1 ?_
  refine wp_putI dX11_fault_2 plX11_95 rfl rfl ?_
  have k0 : KM h (sI h 47 0 0) := KM.sI (by unfold SMx; omega)
  have am := am.km k0
  generalize sI h 47 0 0 = h0 at *
  refine wp_iload_n dX11_fault_5 rfl ?_
  refine wp_i2lI dX11_fault_6 (by first | assumption | (unfold InR; omega)) ?_
  refine wp_lconst (v := 0) dX11_fault_7 rfl ?_
  refine wp_lconst (v := 1) dX11_fault_8 rfl ?_
  refine wp_callSp dX11_fault_9 mlX11_219 msX11_isIn (S_X11_isIn (a := s) (b := 0) (c := 1) (by first | (exact InR.L (by assumption)) | (unfold InL; omega)) (by unfold InL; omega) (by unfold InL; omega)) rfl rfl (by decide) (by decide) (Nat.le_of_ble_eq_true rfl) ?_
  refine wp_ifneb 18 dX11_fault_12 (by decide) (fun c12 => ?_) (fun c12 => ?_)
  · refine wp_iload_n dX11_fault_18 rfl ?_
    refine wp_ifne 29 dX11_fault_19 (by decide) (by first | assumption | (unfold InR; omega)) (fun c19 => ?_) (fun c19 => ?_)
    · refine wp_aload_n dX11_fault_29 rfl ?_
      refine wp_aload_n dX11_fault_30 rfl ?_
      refine wp_getC dX11_fault_31 flX11_9 rfl rfl ?_
      refine wp_iconst dX11_fault_34 ?_
      refine wp_aload_n dX11_fault_35 rfl ?_
      refine wp_getI dX11_fault_36 flX11_112 rfl rfl ?_
      rw [am.1.1]
      refine wp_callV dX11_fault_39 mlX11_264 mvX11_goThrough (S_X11_goThrough (b := 48) (B := 0) o.1 (Or.inl ⟨rfl, rfl⟩) (fun j hj => by rw [Nat.zero_add]; exact am.1.2 j hj) (LTm.any _)) rfl rfl (by decide) (by decide) rfl rfl rfl (Nat.le_of_ble_eq_true rfl) ?_
      rintro rv h2 ⟨rfl, e2, g2, k2⟩
      refine wp_aload_n dX11_fault_42 rfl ?_
      refine wp_getI dX11_fault_43 flX11_131 rfl rfl ?_
      rw [e2]
      exact wp_iret dX11_fault_46 rfl (⟨vi (by unfold rFault; rw [if_neg c19, if_pos (by omega)]), k0.tr k2, fun q => absurd q c19⟩)
    · refine wp_aload_n dX11_fault_22 rfl ?_
      refine wp_callV dX11_fault_23 mlX11_261 mvX11_readGarden (S_X11_readGarden o.1 am.1.1 am.1.2) rfl rfl (by decide) (by decide) rfl rfl rfl (Nat.le_of_ble_eq_true rfl) ?_
      rintro rv h2 ⟨rfl, e2, g2, k2⟩
      refine wp_goto 42 dX11_fault_26 (by decide) ?_
      refine wp_aload_n dX11_fault_42 rfl ?_
      refine wp_getI dX11_fault_43 flX11_131 rfl rfl ?_
      rw [e2]
      exact wp_iret dX11_fault_46 rfl (⟨vi (by unfold rFault; rw [if_pos c19]), k0.tr k2, fun _ => g2⟩)
  · refine wp_bipush dX11_fault_15 rfl ?_
    exact wp_iret dX11_fault_17 rfl (⟨vi (by unfold rFault; rw [if_neg (by omega), if_neg (by omega)]), k0, fun q => absurd q (by omega)⟩)

theorem S_X11_fault {X : Cx} {h : Hp} {σ : Sg} (am : AM h σ) (o : SOK σ) {s : Int} (hs : InR s) : Spec X mX11_fault 40 [.ref (adr X 47), .int (iI s)] h (fun rv h' => rv = some (.int (iI (rFault σ s))) ∧ AM h' σ ∧ sameC h h') := by
  refine spec_mono (S_X11_fault0 am o hs) ?_
  rintro rv h' ⟨h1, h2, -⟩
  exact ⟨h1, am.km h2, h2.C⟩
theorem tx_o {σ : Sg} {s : Int} (h : ¬ (0 ≤ s ∧ s ≤ 1)) : rText σ s = -1 ∧ nText σ s = σ := by
  unfold rText nText
  rw [if_neg (by omega), if_neg (by omega), if_neg (by omega), if_neg (by omega)]
  exact ⟨rfl, rfl⟩
theorem tx_4 {σ : Sg} {s : Int} (hs : s = 1) (h : (sW σ).length = 4) : rText σ s = -1 ∧ nText σ s = σ := by
  subst hs
  show (match wRd (sT σ) with | .inl _ => (-1 : Int) | .inr _ => if (sW σ).length < 4 then ((sW σ).length : Int) else -1) = -1 ∧ (match wRd (sT σ) with | .inl _ => σ | .inr _ => if (sW σ).length < 4 then nWs σ else σ) = σ
  cases wRd (sT σ) with
  | inl e => exact ⟨rfl, rfl⟩
  | inr z => dsimp only; rw [if_neg (by omega), if_neg (by omega)]; exact ⟨rfl, rfl⟩
theorem tx_f {σ : Sg} {s : Int} (h : ¬ rFault σ s = -1) : rText σ s = -1 ∧ nText σ s = σ := by
  unfold rFault at h
  unfold rText nText
  by_cases a : s = 0
  · rw [if_pos a] at h
    rw [if_pos a, if_pos a]
    cases e : gRd (sT σ) with
    | inl e => exact ⟨rfl, rfl⟩
    | inr z => rw [e] at h; exact absurd rfl h
  · rw [if_neg a] at h
    rw [if_neg a, if_neg a]
    by_cases b : s = 1
    · rw [if_pos b] at h
      rw [if_pos b, if_pos b]
      cases e : wRd (sT σ) with
      | inl e => exact ⟨rfl, rfl⟩
      | inr z => rw [e] at h; exact absurd rfl h
    · rw [if_neg b, if_neg b]; exact ⟨rfl, rfl⟩
theorem tx_w {σ : Sg} {s : Int} (hs : s = 1) (h : rFault σ s = -1) (h4 : (sW σ).length < 4) : rText σ s = (sW σ).length ∧ nText σ s = nWs σ := by
  unfold rFault at h
  rw [if_neg (by omega), if_pos hs] at h
  obtain ⟨z, e⟩ := wdV_b.mp h
  subst hs
  show (match wRd (sT σ) with | .inl _ => (-1 : Int) | .inr _ => if (sW σ).length < 4 then ((sW σ).length : Int) else -1) = ((sW σ).length : Int) ∧ (match wRd (sT σ) with | .inl _ => σ | .inr _ => if (sW σ).length < 4 then nWs σ else σ) = nWs σ
  rw [e]
  dsimp only
  rw [if_pos h4, if_pos h4]
  exact ⟨rfl, rfl⟩
theorem tx_g {σ : Sg} {s : Int} (hs : s = 0) (h : rFault σ s = -1) : ∃ G, gRd (sT σ) = .inr G ∧ rText σ s = gP G ∧ nText σ s = nGd σ G := by
  unfold rFault at h
  rw [if_pos hs] at h
  obtain ⟨z, e⟩ := rdV_b.mp h
  refine ⟨z, e, ?_⟩
  unfold rText nText
  rw [if_pos hs, if_pos hs, e]
  exact ⟨rfl, rfl⟩
theorem rFault_R {σ : Sg} (o : SOK σ) (s : Int) : InR (rFault σ s) := by
  have r := rdR o.1
  unfold rFault
  split
  · exact r.1
  · split
    · exact r.2
    · unfold InR; omega
theorem iByte_sbt {x : Int} (h : 0 ≤ x ∧ x ≤ 255) : iByte (sbt x) = sbt x := by
  have h2 : ∀ n : Fin 256, iByte (sbt ((n : Nat) : Int)) = sbt ((n : Nat) : Int) := by decide +kernel
  have := h2 ⟨x.toNat, by omega⟩
  rwa [show ((x.toNat : Nat) : Int) = x by omega] at this
def stW (c j : Nat) : Prop := c = 48 ∨ c = 49 ∨ c = 50 ∨ (c = 47 ∧ (j = 6 ∨ j = 7))

theorem AM.setW {h h' : Hp} {σ : Sg} {t : List Int} {ww : List (List Int)} (a : AM h σ) (tp : TPm h' t) (w1 : hI h' 47 7 = ww.length) (w2 : ∀ (w : Nat) (t : List Int), ww[w]? = some t → hI h' 50 w = t.length ∧ ∀ i : Nat, i < t.length → hI h' 49 (160 * w + i) = sbt (t.getD i 0)) (hk : ∀ c j, ¬ (SMx c j ∨ stW c j) → hI h' c j = hI h c j) (hr : h'.2.2 = h.2.2) : AM h' (t, ww, σ.2.2) := by
  obtain ⟨-, -, d1, r1, ⟨g1, g2, g3, g4, g5, g6⟩, ⟨k1, k2⟩, ⟨c1, c2⟩, ⟨i1, i2⟩⟩ := a
  refine ⟨tp, ⟨w1, w2⟩, ?_, ?_, ⟨?_, ?_, ?_, ?_, ?_, fun s hs => ?_⟩, ⟨?_, fun i q hq => ?_⟩, ⟨?_, fun k l hl => ?_⟩, ⟨?_, fun l hl => ?_⟩⟩
  · rw [hk 47 31 (by unfold SMx stW; omega)]; exact d1
  · unfold hR; rw [hr]; exact r1
  · rw [hk 47 24 (by unfold SMx stW; omega)]; exact g1
  · rw [hk 47 26 (by unfold SMx stW; omega)]; exact g2
  · rw [hk 47 27 (by unfold SMx stW; omega)]; exact g3
  · rw [hM_eq (h := h) (hk 47 24 (by unfold SMx stW; omega)) (fun i => hk 52 i (by unfold SMx stW; omega))]; exact g4
  · rw [sM_eq (h := h) (fun i => hk 54 i (by unfold SMx stW; omega))]; exact g5
  · rw [hk 56 _ (by unfold SMx stW; omega), hk 56 _ (by unfold SMx stW; omega)]; exact g6 s hs
  · rw [hk 47 42 (by unfold SMx stW; omega)]; exact k1
  · rw [hk 63 _ (by unfold SMx stW; omega), hk 64 _ (by unfold SMx stW; omega)]; exact k2 i q hq
  · rw [hk 47 48 (by unfold SMx stW; omega)]; exact c1
  · have q := c2 k l hl
    exact ⟨fun i hi => by rw [hk 67 _ (by unfold SMx stW; omega)]; exact q.1 i hi, fun i hi => by rw [hk 67 _ (by unfold SMx stW; omega)]; exact q.2 i hi⟩
  · rw [hk 47 51 (by unfold SMx stW; omega)]; exact i1
  · have q := i2 l hl
    exact ⟨fun i hi => by rw [hk 68 _ (by unfold SMx stW; omega)]; exact q.1 i hi, fun i hi => by rw [hk 69 _ (by unfold SMx stW; omega)]; exact q.2 i hi⟩
theorem AM.setG {h h' : Hp} {σ : Sg} {G : Gdn} (a : AM h σ) (t6 : hI h' 47 6 = 0) (d31 : hI h' 47 31 = -1) (g : hI h' 47 24 = gP G ∧ hI h' 47 26 = gA G ∧ hI h' 47 27 = gK G ∧ hM h' = gH G ∧ sM h' = gS G ∧ ∀ s : Nat, (s : Int) < gK G → hI h' 56 (2 * s) = gT G s ∧ hI h' 56 (2 * s + 1) = gN G s) (r42 : hI h' 47 42 = 0) (r48 : hI h' 47 48 = 0) (r51 : hI h' 47 51 = 0) (k7 : hI h' 47 7 = hI h 47 7) (k9 : ∀ j, hI h' 49 j = hI h 49 j) (k0 : ∀ j, hI h' 50 j = hI h 50 j) (hr : h'.2.2 = h.2.2) : AM h' (nGd σ G) := by
  obtain ⟨-, ⟨w1, w2⟩, d1, r1, -⟩ := a
  refine ⟨⟨t6, fun i hi => (by cases hi)⟩, ⟨k7.trans w1, fun w t ht => ?_⟩, d31, by unfold hR; rw [hr]; exact r1, g, ⟨r42, fun i q hq => (by cases hq)⟩, ⟨r48, fun i q hq => (by cases hq)⟩, ⟨r51, fun l hl => (by cases hl)⟩⟩
  obtain ⟨q1, q2⟩ := w2 w t ht
  exact ⟨by rw [k0]; exact q1, fun i hi => by rw [k9]; exact q2 i hi⟩
theorem sameC.tr9 {h h1 h2 : Hp} (a : sameC h h1) (b : sameC h1 h2) : sameC h h2 := sameC_tr a b

set_option maxRecDepth 20000 in
theorem S_X11_text {X : Cx} {h : Hp} {σ : Sg} (am : AM h σ) (o : SOK σ) {s : Int} (hs : InR s) : Spec X mX11_text 60 [.ref (adr X 47), .int (iI s)] h (fun rv h' => rv = some (.int (iI (rText σ s))) ∧ AM h' (nText σ s) ∧ sameC h h') := by
  have wl := o.2.1.1
  have rfR := rFault_R o s
  refine spec_wp (Nat.le_of_ble_eq_true rfl) (by decide +kernel) ?_
  refine wp_loc [(0, .ref (adr X 47)), (1, .int (iI s))] ⟨rfl, rfl, trivial⟩ ?_
  refine wp_aload_n dX11_text_0 rfl ?_
  refine wp_iconst dX11_text_1 ?_
  refine wp_putI dX11_text_2 plX11_95 rfl rfl ?_
  have k0 : KM h (sI h 47 0 0) := KM.sI (by unfold SMx; omega)
  have am := am.km k0
  generalize sI h 47 0 0 = h0 at *
  refine wp_iload_n dX11_text_5 rfl ?_
  refine wp_i2lI dX11_text_6 (by first | assumption | (unfold InR; omega)) ?_
  refine wp_lconst (v := 0) dX11_text_7 rfl ?_
  refine wp_lconst (v := 1) dX11_text_8 rfl ?_
  refine wp_callSp dX11_text_9 mlX11_219 msX11_isIn (S_X11_isIn (a := s) (b := 0) (c := 1) (by first | (exact InR.L (by assumption)) | (unfold InL; omega)) (by unfold InL; omega) (by unfold InL; omega)) rfl rfl (by decide) (by decide) (Nat.le_of_ble_eq_true rfl) ?_
  refine wp_ifeqb 37 dX11_text_12 (by decide) (fun c12 => ?_) (fun c12 => ?_)
  · refine wp_iconst dX11_text_37 ?_
    exact wp_iret dX11_text_38 rfl (by
  have z := tx_o (σ := σ) (s := s) (by omega)
  rw [z.1, z.2]
  exact ⟨rfl, am, k0.C⟩)
  · refine wp_iload_n dX11_text_15 rfl ?_
    refine wp_iconst dX11_text_16 ?_
    refine wp_icmpne 28 dX11_text_17 (by decide) (by first | assumption | (unfold InR; omega)) (by first | assumption | (unfold InR; omega)) (fun c17 => ?_) (fun c17 => ?_)
    · refine wp_aload_n dX11_text_28 rfl ?_
      refine wp_iload_n dX11_text_29 rfl ?_
      refine wp_callV dX11_text_30 mlX11_270 mvX11_fault (S_X11_fault0 am o hs) rfl rfl (by decide) (by decide) rfl rfl rfl (Nat.le_of_ble_eq_true rfl) ?_
      rintro rv h2 ⟨rfl, k2, g2⟩
      have am2 := am.km k2
      refine wp_iconst dX11_text_33 ?_
      skip
      refine wp_icmpeq 39 dX11_text_34 (by decide) (by first | assumption | (unfold InR; omega)) (by first | assumption | (unfold InR; omega)) (fun c34 => ?_) (fun c34 => ?_)
      · refine wp_aload_n dX11_text_39 rfl ?_
        refine wp_getI dX11_text_40 flX11_112 rfl rfl ?_
        rw [am2.1.1]
        refine wp_istore_n dX11_text_43 (by decide) ?_
        refine wp_aload_n dX11_text_44 rfl ?_
        refine wp_iconst dX11_text_45 ?_
        refine wp_putI dX11_text_46 plX11_112 rfl rfl ?_
        obtain ⟨h3, e3⟩ : ∃ h3, h3 = sI h2 47 6 0 := ⟨_, rfl⟩
        rw [← e3]
        have f7 : hI h3 47 7 = (sW σ).length := by rw [e3, hI_sI, if_neg (by omega)]; exact am2.2.1.1
        have tl160 := o.1.1
        refine wp_iload_n dX11_text_49 rfl ?_
        refine wp_iconst dX11_text_50 ?_
        refine wp_icmpne 115 dX11_text_51 (by decide) (by first | assumption | (unfold InR; omega)) (by first | assumption | (unfold InR; omega)) (fun c51 => ?_) (fun c51 => ?_)
        · obtain ⟨G, eG, tg2, tg3⟩ := tx_g (σ := σ) (s := s) (by omega) c34
          obtain ⟨q, rfl, hq, dm2⟩ := g2 (by omega) G eG
          have dm : DM h2 q := dm2
          have ql24 : q.1.length ≤ 24 := by
            rcases hq.1 with z | z
            · rw [z]; decide
            · omega
          have qc4 := hq.2.2.2.1
          have f25 : hI h3 47 25 = q.1.length := by rw [e3, hI_sI, if_neg (by omega)]; exact dm.1
          have f28 : hI h3 47 28 = q.2.2.length := by rw [e3, hI_sI, if_neg (by omega)]; exact dm.2.1
          refine wp_aload_n dX11_text_115 rfl ?_
          refine wp_aload_n dX11_text_116 rfl ?_
          refine wp_getI dX11_text_117 flX11_230 rfl rfl ?_
          rw [f25]
          refine wp_putI dX11_text_120 plX11_272 rfl rfl ?_
          refine wp_aload_n dX11_text_123 rfl ?_
          refine wp_aload_n dX11_text_124 rfl ?_
          refine wp_getI dX11_text_125 flX11_244 rfl rfl ?_
          rw [hI_sI, if_neg (by omega), f28]
          refine wp_putI dX11_text_128 plX11_275 rfl rfl ?_
          refine wp_aload_n dX11_text_131 rfl ?_
          refine wp_aload_n dX11_text_132 rfl ?_
          refine wp_getC dX11_text_133 flX11_46 rfl rfl ?_
          refine wp_iconst dX11_text_136 ?_
          refine wp_iald (n := 5) dX11_text_137 rfl (by decide) (by decide) ?_
          rw [hI_sI, if_neg (by omega), hI_sI, if_neg (by omega), show hI h3 55 (0 : Int).toNat = gIt q 0 by rw [e3, hI_sI, if_neg (by omega)]; exact dm.2.2.2.2.2.1 0 (by decide)]
          refine wp_putI dX11_text_138 plX11_278 rfl rfl ?_
          obtain ⟨h4, e4⟩ : ∃ h4, h4 = (sI (sI (sI h3 47 24 (q.1.length : Int)) 47 27 (q.2.2.length : Int)) 47 26 (gIt q 0)) := ⟨_, rfl⟩
          rw [← e4]
          have f24 : hI h4 47 24 = gP (gOf q) := by rw [e4, hI_sI, if_neg (by omega), hI_sI, if_neg (by omega), hI_same]; rfl
          have f26 : hI h4 47 26 = gA (gOf q) := by rw [e4, hI_same]; rfl
          have f27 : hI h4 47 27 = gK (gOf q) := by rw [e4, hI_sI, if_neg (by omega), hI_same]; rfl
          have f6 : hI h4 47 6 = 0 := by rw [e4, hI_sI, if_neg (by omega), hI_sI, if_neg (by omega), hI_sI, if_neg (by omega), e3, hI_same]
          have f7g : hI h4 47 7 = hI h2 47 7 := by rw [e4, hI_sI, if_neg (by omega), hI_sI, if_neg (by omega), hI_sI, if_neg (by omega), e3, hI_sI, if_neg (by omega)]
          have fo : ∀ c j, c ≠ 47 → hI h4 c j = hI h2 c j := fun c j hc => by rw [e4, hI_sI, if_neg (by omega), hI_sI, if_neg (by omega), hI_sI, if_neg (by omega), e3, hI_sI, if_neg (by omega)]
          have f53 : ∀ j, hI h4 53 j = hI h2 53 j := fun j => fo 53 j (by decide)
          have f55 : ∀ j, hI h4 55 j = hI h2 55 j := fun j => fo 55 j (by decide)
          have f57 : ∀ j, hI h4 57 j = hI h2 57 j := fun j => fo 57 j (by decide)
          have ql : (q.1.length : Int) = gP (gOf q) := rfl
          have K220 : WP X mX11_text 60 220 [(0, .ref (adr X 47)), (3, .int (iI ((8 : Nat) : Int)))] [] (cpy (cpy (cpy h4 53 0 52 0 24) 55 1 54 0 4) 57 0 56 0 8) (fun rv h' => rv = some (.int (iI (rText σ s))) ∧ AM h' (nText σ s) ∧ sameC h h') := by
            refine wp_aload_n dX11_text_220 rfl ?_
            refine wp_iconst dX11_text_221 ?_
            refine wp_putI dX11_text_222 plX11_55 rfl rfl ?_
            refine wp_aload_n dX11_text_225 rfl ?_
            refine wp_iconst dX11_text_226 ?_
            refine wp_putI dX11_text_227 plX11_281 rfl rfl ?_
            refine wp_aload_n dX11_text_230 rfl ?_
            refine wp_iconst dX11_text_231 ?_
            refine wp_putI dX11_text_232 plX11_284 rfl rfl ?_
            refine wp_aload_n dX11_text_235 rfl ?_
            refine wp_iconst dX11_text_236 ?_
            refine wp_putZ dX11_text_237 plX11_287 rfl rfl (by omega) ?_
            refine wp_aload_n dX11_text_240 rfl ?_
            refine wp_getI dX11_text_241 flX11_272 rfl rfl ?_
            rw [hI_sI, if_neg (by omega), hI_sI, if_neg (by omega), hI_sI, if_neg (by omega), hI_sI, if_neg (by omega), cpy_I (by decide), cpy_I (by decide), cpy_I (by decide), f24]
            exact wp_iret dX11_text_244 rfl (by
            have e47 : ∀ j, j ≠ 31 → j ≠ 42 → j ≠ 48 → j ≠ 51 → hI (sI (sI (sI (sI (cpy (cpy (cpy h4 53 0 52 0 24) 55 1 54 0 4) 57 0 56 0 8) 47 31 (-1)) 47 42 0) 47 48 0) 47 51 0) 47 j = hI h4 47 j := fun j a1 a2 a3 a4 => by rw [hI_sI, if_neg (by omega), hI_sI, if_neg (by omega), hI_sI, if_neg (by omega), hI_sI, if_neg (by omega), cpy_I (by decide), cpy_I (by decide), cpy_I (by decide)]
            have eo : ∀ c j, c ≠ 47 → hI (sI (sI (sI (sI (cpy (cpy (cpy h4 53 0 52 0 24) 55 1 54 0 4) 57 0 56 0 8) 47 31 (-1)) 47 42 0) 47 48 0) 47 51 0) c j = hI (cpy (cpy (cpy h4 53 0 52 0 24) 55 1 54 0 4) 57 0 56 0 8) c j := fun c j a1 => by rw [hI_sI, if_neg (by omega), hI_sI, if_neg (by omega), hI_sI, if_neg (by omega), hI_sI, if_neg (by omega)]
            refine ⟨vi (by rw [tg2]), ?_, k0.C.tr9 (k2.C.tr9 ?_)⟩
            · rw [tg3]
              refine AM.setG am2 (by rw [e47 6 (by decide) (by decide) (by decide) (by decide)]; exact f6) (by rw [hI_sI, if_neg (by omega), hI_sI, if_neg (by omega), hI_sI, if_neg (by omega), hI_same]) ⟨by rw [e47 24 (by decide) (by decide) (by decide) (by decide)]; exact f24, by rw [e47 26 (by decide) (by decide) (by decide) (by decide)]; exact f26, by rw [e47 27 (by decide) (by decide) (by decide) (by decide)]; exact f27, ?_, ?_, fun s hs => ?_⟩ (by rw [hI_sI, if_neg (by omega), hI_sI, if_neg (by omega), hI_same]) (by rw [hI_sI, if_neg (by omega), hI_same]) (by rw [hI_same]) (by rw [e47 7 (by decide) (by decide) (by decide) (by decide)]; exact f7g) (fun j => by rw [eo _ _ (by decide), cpy_I (by decide), cpy_I (by decide), cpy_I (by decide), e4, hI_sI, if_neg (by omega), hI_sI, if_neg (by omega), hI_sI, if_neg (by omega), e3, hI_sI, if_neg (by omega)]) (fun j => by rw [eo _ _ (by decide), cpy_I (by decide), cpy_I (by decide), cpy_I (by decide), e4, hI_sI, if_neg (by omega), hI_sI, if_neg (by omega), hI_sI, if_neg (by omega), e3, hI_sI, if_neg (by omega)]) (by rw [e4, e3]; rfl)
              · funext i
                unfold hM
                rw [e47 24 (by decide) (by decide) (by decide) (by decide), f24, ← ql]
                show _ = if 0 ≤ i ∧ i < (q.1.length : Int) then q.1.getD i.toNat 0 else 0
                by_cases hi : 0 ≤ i ∧ i < (q.1.length : Int)
                · rw [if_pos hi, if_pos hi, eo _ _ (by decide), cpy_I (by decide), cpy_I (by decide), cpy_in (by omega) (by omega), show 0 + (i.toNat - 0) = i.toNat by omega, f53]
                  exact dm.2.2.2.2.1 i.toNat (by omega)
                · rw [if_neg hi, if_neg hi]
              · funext l
                unfold sM
                show _ = if 0 ≤ l ∧ l < 4 then gIt q (l + 1) else 0
                by_cases hl : 0 ≤ l ∧ l < 4
                · rw [if_pos hl, if_pos hl, eo _ _ (by decide), cpy_I (by decide), cpy_in (by omega) (by omega), cpy_I (by decide), show 1 + (l.toNat - 0) = l.toNat + 1 by omega, f55, dm.2.2.2.2.2.1 (l.toNat + 1) (by omega)]
                  congr 1
                  omega
                · rw [if_neg hl, if_neg hl]
              · have hs2 : s < q.2.2.length := by
                  have e : gK (gOf q) = q.2.2.length := rfl
                  omega
                have x := dm.2.2.2.2.2.2 s hs2
                have e1 : gT (gOf q) s = (q.2.2.getD s (1, 0)).1 := by
                  show (if 0 ≤ (s : Int) ∧ (s : Int) < q.2.2.length then (q.2.2.getD ((s : Int)).toNat (1, 0)).1 else 1) = _
                  rw [if_pos (by omega), Int.toNat_natCast]
                have e2 : gN (gOf q) s = (q.2.2.getD s (1, 0)).2 := by
                  show (if 0 ≤ (s : Int) ∧ (s : Int) < q.2.2.length then (q.2.2.getD ((s : Int)).toNat (1, 0)).2 else 0) = _
                  rw [if_pos (by omega), Int.toNat_natCast]
                rw [e1, e2, eo _ _ (by decide), eo _ _ (by decide), cpy_in (by omega) (by omega), cpy_in (by omega) (by omega), cpy_I (by decide), cpy_I (by decide), cpy_I (by decide), cpy_I (by decide), f57, f57, show 0 + (2 * s - 0) = 2 * s by omega, show 0 + (2 * s + 1 - 0) = 2 * s + 1 by omega]
                exact x
            · rw [e4, e3]
              exact fun c hc => ⟨by
                funext j
                show hI _ c j = hI _ c j
                rw [hI_sI, if_neg (by omega), hI_sI, if_neg (by omega), hI_sI, if_neg (by omega), hI_sI, if_neg (by omega), cpy_I (by omega), cpy_I (by omega), cpy_I (by omega), hI_sI, if_neg (by omega), hI_sI, if_neg (by omega), hI_sI, if_neg (by omega), hI_sI, if_neg (by omega)], rfl, rfl⟩)
          have Lg3 : ∀ (n : Nat) (k : Nat), (k + n = 8) → WP X mX11_text 60 196 [(0, .ref (adr X 47)), (3, .int (iI (k : Int)))] [] (cpy (cpy (cpy h4 53 0 52 0 24) 55 1 54 0 4) 57 0 56 0 k) (fun rv h' => rv = some (.int (iI (rText σ s))) ∧ AM h' (nText σ s) ∧ sameC h h') := by
            intro n
            induction n with
            | zero =>
              intro k hk
              refine wp_iload_n dX11_text_196 rfl ?_
              refine wp_bipush dX11_text_197 rfl ?_
              refine wp_icmpge 220 dX11_text_199 (by decide) (by unfold InR; omega) (by unfold InR; omega) (fun c199 => ?_) (fun c199 => ?_)
              · rw [show k = 8 by omega]
                exact K220
              · exact absurd c199 (by omega)
            | succ n ih =>
              intro k hk
              refine wp_iload_n dX11_text_196 rfl ?_
              refine wp_bipush dX11_text_197 rfl ?_
              refine wp_icmpge 220 dX11_text_199 (by decide) (by unfold InR; omega) (by unfold InR; omega) (fun c199 => ?_) (fun c199 => ?_)
              · exact absurd c199 (by omega)
              · refine wp_aload_n dX11_text_202 rfl ?_
                refine wp_getC dX11_text_203 flX11_49 rfl rfl ?_
                refine wp_iload_n dX11_text_206 rfl ?_
                refine wp_aload_n dX11_text_207 rfl ?_
                refine wp_getC dX11_text_208 flX11_52 rfl rfl ?_
                refine wp_iload_n dX11_text_211 rfl ?_
                refine wp_iald dX11_text_212 rfl (by omega) (by omega) ?_
                rw [show (((k : Nat) : Int)).toNat = 0 + k by omega, cpy_I (by decide)]
                refine wp_iast dX11_text_213 rfl (by omega) (by omega) ?_
                rw [show (((k : Nat) : Int)).toNat = 0 + k by omega, cpy_s]
                refine wp_iinc dX11_text_214 rfl (by decide) ?_
                refine wp_goto 196 dX11_text_217 (by decide) ?_
                refine wp_loc [(0, .ref (adr X 47)), (3, .int (iI ((k + 1 : Nat) : Int)))] ⟨rfl, rfl, trivial⟩ ?_
                exact ih (k + 1) (by omega)
          have K194 : WP X mX11_text 60 194 [(0, .ref (adr X 47)), (3, .int (iI ((4 : Nat) : Int)))] [] (cpy (cpy h4 53 0 52 0 24) 55 1 54 0 4) (fun rv h' => rv = some (.int (iI (rText σ s))) ∧ AM h' (nText σ s) ∧ sameC h h') := by
            refine wp_iconst dX11_text_194 ?_
            refine wp_istore_n dX11_text_195 (by decide) ?_
            refine wp_loc [(0, .ref (adr X 47)), (3, .int (iI ((0 : Nat) : Int)))] ⟨rfl, rfl, trivial⟩ ?_
            have q9 := Lg3 8 0 (by omega)
            rw [cpy_0] at q9
            exact q9
          have Lg2 : ∀ (n : Nat) (k : Nat), (k + n = 4) → WP X mX11_text 60 169 [(0, .ref (adr X 47)), (3, .int (iI (k : Int)))] [] (cpy (cpy h4 53 0 52 0 24) 55 1 54 0 k) (fun rv h' => rv = some (.int (iI (rText σ s))) ∧ AM h' (nText σ s) ∧ sameC h h') := by
            intro n
            induction n with
            | zero =>
              intro k hk
              refine wp_iload_n dX11_text_169 rfl ?_
              refine wp_iconst dX11_text_170 ?_
              refine wp_icmpge 194 dX11_text_171 (by decide) (by unfold InR; omega) (by unfold InR; omega) (fun c171 => ?_) (fun c171 => ?_)
              · rw [show k = 4 by omega]
                exact K194
              · exact absurd c171 (by omega)
            | succ n ih =>
              intro k hk
              refine wp_iload_n dX11_text_169 rfl ?_
              refine wp_iconst dX11_text_170 ?_
              refine wp_icmpge 194 dX11_text_171 (by decide) (by unfold InR; omega) (by unfold InR; omega) (fun c171 => ?_) (fun c171 => ?_)
              · exact absurd c171 (by omega)
              · refine wp_aload_n dX11_text_174 rfl ?_
                refine wp_getC dX11_text_175 flX11_43 rfl rfl ?_
                refine wp_iload_n dX11_text_178 rfl ?_
                refine wp_aload_n dX11_text_179 rfl ?_
                refine wp_getC dX11_text_180 flX11_46 rfl rfl ?_
                refine wp_iload_n dX11_text_183 rfl ?_
                refine wp_iconst dX11_text_184 ?_
                refine wp_iadd dX11_text_185 ?_
                refine wp_iald dX11_text_186 rfl (by omega) (by omega) ?_
                rw [show (((k : Nat) : Int) + 1).toNat = 1 + k by omega, cpy_I (by decide)]
                refine wp_iast dX11_text_187 rfl (by omega) (by omega) ?_
                rw [show (((k : Nat) : Int)).toNat = 0 + k by omega, cpy_s]
                refine wp_iinc dX11_text_188 rfl (by decide) ?_
                refine wp_goto 169 dX11_text_191 (by decide) ?_
                refine wp_loc [(0, .ref (adr X 47)), (3, .int (iI ((k + 1 : Nat) : Int)))] ⟨rfl, rfl, trivial⟩ ?_
                exact ih (k + 1) (by omega)
          have K167 : WP X mX11_text 60 167 [(0, .ref (adr X 47)), (3, .int (iI ((24 : Nat) : Int)))] [] (cpy h4 53 0 52 0 24) (fun rv h' => rv = some (.int (iI (rText σ s))) ∧ AM h' (nText σ s) ∧ sameC h h') := by
            refine wp_iconst dX11_text_167 ?_
            refine wp_istore_n dX11_text_168 (by decide) ?_
            refine wp_loc [(0, .ref (adr X 47)), (3, .int (iI ((0 : Nat) : Int)))] ⟨rfl, rfl, trivial⟩ ?_
            have q9 := Lg2 4 0 (by omega)
            rw [cpy_0] at q9
            exact q9
          have Lg1 : ∀ (n : Nat) (k : Nat), (k + n = 24) → WP X mX11_text 60 143 [(0, .ref (adr X 47)), (3, .int (iI (k : Int)))] [] (cpy h4 53 0 52 0 k) (fun rv h' => rv = some (.int (iI (rText σ s))) ∧ AM h' (nText σ s) ∧ sameC h h') := by
            intro n
            induction n with
            | zero =>
              intro k hk
              refine wp_iload_n dX11_text_143 rfl ?_
              refine wp_bipush dX11_text_144 rfl ?_
              refine wp_icmpge 167 dX11_text_146 (by decide) (by unfold InR; omega) (by unfold InR; omega) (fun c146 => ?_) (fun c146 => ?_)
              · rw [show k = 24 by omega]
                exact K167
              · exact absurd c146 (by omega)
            | succ n ih =>
              intro k hk
              refine wp_iload_n dX11_text_143 rfl ?_
              refine wp_bipush dX11_text_144 rfl ?_
              refine wp_icmpge 167 dX11_text_146 (by decide) (by unfold InR; omega) (by unfold InR; omega) (fun c146 => ?_) (fun c146 => ?_)
              · exact absurd c146 (by omega)
              · refine wp_aload_n dX11_text_149 rfl ?_
                refine wp_getC dX11_text_150 flX11_37 rfl rfl ?_
                refine wp_iload_n dX11_text_153 rfl ?_
                refine wp_aload_n dX11_text_154 rfl ?_
                refine wp_getC dX11_text_155 flX11_40 rfl rfl ?_
                refine wp_iload_n dX11_text_158 rfl ?_
                refine wp_iald dX11_text_159 rfl (by omega) (by omega) ?_
                rw [show (((k : Nat) : Int)).toNat = 0 + k by omega, cpy_I (by decide)]
                refine wp_iast dX11_text_160 rfl (by omega) (by omega) ?_
                rw [show (((k : Nat) : Int)).toNat = 0 + k by omega, cpy_s]
                refine wp_iinc dX11_text_161 rfl (by decide) ?_
                refine wp_goto 143 dX11_text_164 (by decide) ?_
                refine wp_loc [(0, .ref (adr X 47)), (3, .int (iI ((k + 1 : Nat) : Int)))] ⟨rfl, rfl, trivial⟩ ?_
                exact ih (k + 1) (by omega)
          refine wp_iconst dX11_text_141 ?_
          refine wp_istore_n dX11_text_142 (by decide) ?_
          refine wp_loc [(0, .ref (adr X 47)), (3, .int (iI ((0 : Nat) : Int)))] ⟨rfl, rfl, trivial⟩ ?_
          have q9 := Lg1 24 0 (by omega)
          rw [cpy_0] at q9
          exact q9
        · exact absurd c51 c17
      · refine wp_iconst dX11_text_37 ?_
        exact wp_iret dX11_text_38 rfl (by
  have z := tx_f (σ := σ) (s := s) c34
  rw [z.1, z.2]
  exact ⟨rfl, am2, (k0.tr k2).C⟩)
    · refine wp_aload_n dX11_text_20 rfl ?_
      refine wp_getI dX11_text_21 flX11_267 rfl rfl ?_
      rw [am.2.1.1]
      refine wp_iconst dX11_text_24 ?_
      refine wp_icmpeq 37 dX11_text_25 (by decide) (by first | assumption | (unfold InR; omega)) (by first | assumption | (unfold InR; omega)) (fun c25 => ?_) (fun c25 => ?_)
      · refine wp_iconst dX11_text_37 ?_
        exact wp_iret dX11_text_38 rfl (by
  have z := tx_4 (σ := σ) (s := s) c17 (by omega)
  rw [z.1, z.2]
  exact ⟨rfl, am, k0.C⟩)
      · refine wp_aload_n dX11_text_28 rfl ?_
        refine wp_iload_n dX11_text_29 rfl ?_
        refine wp_callV dX11_text_30 mlX11_270 mvX11_fault (S_X11_fault0 am o hs) rfl rfl (by decide) (by decide) rfl rfl rfl (Nat.le_of_ble_eq_true rfl) ?_
        rintro rv h2 ⟨rfl, k2, g2⟩
        have am2 := am.km k2
        refine wp_iconst dX11_text_33 ?_
        skip
        refine wp_icmpeq 39 dX11_text_34 (by decide) (by first | assumption | (unfold InR; omega)) (by first | assumption | (unfold InR; omega)) (fun c34 => ?_) (fun c34 => ?_)
        · refine wp_aload_n dX11_text_39 rfl ?_
          refine wp_getI dX11_text_40 flX11_112 rfl rfl ?_
          rw [am2.1.1]
          refine wp_istore_n dX11_text_43 (by decide) ?_
          refine wp_aload_n dX11_text_44 rfl ?_
          refine wp_iconst dX11_text_45 ?_
          refine wp_putI dX11_text_46 plX11_112 rfl rfl ?_
          obtain ⟨h3, e3⟩ : ∃ h3, h3 = sI h2 47 6 0 := ⟨_, rfl⟩
          rw [← e3]
          have f7 : hI h3 47 7 = (sW σ).length := by rw [e3, hI_sI, if_neg (by omega)]; exact am2.2.1.1
          have tl160 := o.1.1
          refine wp_iload_n dX11_text_49 rfl ?_
          refine wp_iconst dX11_text_50 ?_
          refine wp_icmpne 115 dX11_text_51 (by decide) (by first | assumption | (unfold InR; omega)) (by first | assumption | (unfold InR; omega)) (fun c51 => ?_) (fun c51 => ?_)
          · exact absurd c17 c51
          · have tw := tx_w (σ := σ) (s := s) c51 c34 (by omega)
            have f48 : ∀ j : Nat, j < (sT σ).length → hI h3 48 j = sbt ((sT σ).getD j 0) := fun j hj => by rw [e3, hI_sI, if_neg (by omega)]; exact am2.1.2 j hj
            have tb : ∀ j : Nat, j < (sT σ).length → 0 ≤ (sT σ).getD j 0 ∧ (sT σ).getD j 0 ≤ 255 := fun j hj => by have := o.1.2 _ (getD_in 0 hj); omega
            have K88 : WP X mX11_text 60 88 [(0, .ref (adr X 47)), (2, .int (iI ((sT σ).length : Int))), (3, .int (iI ((sT σ).length : Int)))] [] (cpy h3 48 0 49 (160 * (sW σ).length) (sT σ).length) (fun rv h' => rv = some (.int (iI (rText σ s))) ∧ AM h' (nText σ s) ∧ sameC h h') := by
              refine wp_aload_n dX11_text_88 rfl ?_
              refine wp_getC dX11_text_89 flX11_16 rfl rfl ?_
              refine wp_aload_n dX11_text_92 rfl ?_
              refine wp_getI dX11_text_93 flX11_267 rfl rfl ?_
              rw [cpy_I (by decide), f7]
              refine wp_iload_n dX11_text_96 rfl ?_
              refine wp_iast (n := 4) dX11_text_97 rfl (by omega) (by omega) ?_
              rw [Int.toNat_natCast]
              refine wp_aload_n dX11_text_98 rfl ?_
              refine wp_dup dX11_text_99 rfl ?_
              refine wp_getI dX11_text_100 flX11_267 rfl rfl ?_
              rw [hI_sI, if_neg (by omega), cpy_I (by decide), f7]
              refine wp_iconst dX11_text_103 ?_
              refine wp_iadd dX11_text_104 ?_
              refine wp_putI dX11_text_105 plX11_267 rfl rfl ?_
              refine wp_aload_n dX11_text_108 rfl ?_
              refine wp_getI dX11_text_109 flX11_267 rfl rfl ?_
              rw [hI_same]
              refine wp_iconst dX11_text_112 ?_
              refine wp_isub dX11_text_113 ?_
              exact wp_iret dX11_text_114 rfl (by
              refine ⟨vi (by rw [tw.1]; omega), ?_, k0.C.tr9 (k2.C.tr9 ?_)⟩
              · rw [tw.2]
                refine AM.setW am2 ⟨?_, fun i hi => (by cases hi)⟩ ?_ (fun w t ht => ?_) (fun c j hn => ?_) (by rw [e3]; rfl)
                · rw [hI_sI, if_neg (by omega), hI_sI, if_neg (by omega), cpy_I (by decide), e3, hI_same]; rfl
                · rw [hI_same, List.length_append, List.length_singleton]; omega
                · by_cases ew : w = (sW σ).length
                  · have et : t = sT σ := by rw [ew] at ht; simpa using ht.symm
                    subst et
                    subst ew
                    refine ⟨by rw [hI_sI, if_neg (by omega), hI_sI, if_pos ⟨rfl, rfl⟩], fun i hi => ?_⟩
                    rw [hI_sI, if_neg (by omega), hI_sI, if_neg (by omega), cpy_in (by omega) (by omega), e3, hI_sI, if_neg (by omega), show 0 + (160 * (sW σ).length + i - 160 * (sW σ).length) = i by omega]
                    exact am2.1.2 i hi
                  · have hw : w < (sW σ).length := by
                      have hh := (List.getElem?_eq_some_iff.mp ht).1
                      rw [List.length_append, List.length_singleton] at hh
                      omega
                    rw [List.getElem?_append_left hw] at ht
                    obtain ⟨x1, x2⟩ := am2.2.1.2 w t ht
                    have t160 := (o.2.1.2 t (List.mem_of_getElem? ht)).1.1
                    refine ⟨by rw [hI_sI, if_neg (by omega), hI_sI, if_neg (by omega), cpy_I (by decide), e3, hI_sI, if_neg (by omega)]; exact x1, fun i hi => ?_⟩
                    rw [hI_sI, if_neg (by omega), hI_sI, if_neg (by omega), cpy_out (by omega), e3, hI_sI, if_neg (by omega)]
                    exact x2 i hi
                · unfold stW at hn
                  rw [hI_sI, if_neg (by omega), hI_sI, if_neg (by omega), cpy_I (by omega), e3, hI_sI, if_neg (by omega)]
              · rw [e3]
                exact fun c hc => ⟨by
                  funext j
                  show hI _ c j = hI _ c j
                  rw [hI_sI, if_neg (by omega), hI_sI, if_neg (by omega), cpy_I (by omega), hI_sI, if_neg (by omega)], rfl, rfl⟩)
            have Lw : ∀ (n : Nat) (k : Nat), (k + n = (sT σ).length) → WP X mX11_text 60 56 [(0, .ref (adr X 47)), (2, .int (iI ((sT σ).length : Int))), (3, .int (iI (k : Int)))] [] (cpy h3 48 0 49 (160 * (sW σ).length) k) (fun rv h' => rv = some (.int (iI (rText σ s))) ∧ AM h' (nText σ s) ∧ sameC h h') := by
              intro n
              induction n with
              | zero =>
                intro k hk
                refine wp_iload_n dX11_text_56 rfl ?_
                refine wp_iload_n dX11_text_57 rfl ?_
                refine wp_icmpge 88 dX11_text_58 (by decide) (by unfold InR; omega) (by unfold InR; omega) (fun c58 => ?_) (fun c58 => ?_)
                · rw [show k = (sT σ).length by omega]
                  exact K88
                · exact absurd c58 (by omega)
              | succ n ih =>
                intro k hk
                refine wp_iload_n dX11_text_56 rfl ?_
                refine wp_iload_n dX11_text_57 rfl ?_
                refine wp_icmpge 88 dX11_text_58 (by decide) (by unfold InR; omega) (by unfold InR; omega) (fun c58 => ?_) (fun c58 => ?_)
                · exact absurd c58 (by omega)
                · refine wp_aload_n dX11_text_61 rfl ?_
                  refine wp_getC dX11_text_62 flX11_13 rfl rfl ?_
                  refine wp_sipush dX11_text_65 rfl ?_
                  refine wp_aload_n dX11_text_68 rfl ?_
                  refine wp_getI dX11_text_69 flX11_267 rfl rfl ?_
                  rw [cpy_I (by decide), f7]
                  refine wp_imul dX11_text_72 ?_
                  refine wp_iload_n dX11_text_73 rfl ?_
                  refine wp_iadd dX11_text_74 ?_
                  refine wp_aload_n dX11_text_75 rfl ?_
                  refine wp_getC dX11_text_76 flX11_9 rfl rfl ?_
                  refine wp_iload_n dX11_text_79 rfl ?_
                  refine wp_bald (n := 160) dX11_text_80 rfl (by omega) (by omega) ?_
                  rw [show ((k : Nat) : Int).toNat = 0 + k by omega, cpy_I (by decide)]
                  refine wp_bast (n := 640) dX11_text_81 rfl (by omega) (by omega) ?_
                  rw [show (160 * (((sW σ).length : Nat) : Int) + ((k : Nat) : Int)).toNat = 160 * (sW σ).length + k by omega, show iByte (hI h3 48 (0 + k)) = hI h3 48 (0 + k) by rw [Nat.zero_add, f48 k (by omega)]; exact iByte_sbt (tb k (by omega)), cpy_s]
                  refine wp_iinc dX11_text_82 rfl (by decide) ?_
                  refine wp_goto 56 dX11_text_85 (by decide) ?_
                  refine wp_loc [(0, .ref (adr X 47)), (2, .int (iI ((sT σ).length : Int))), (3, .int (iI ((k + 1 : Nat) : Int)))] ⟨rfl, rfl, rfl, trivial⟩ ?_
                  exact ih (k + 1) (by omega)
            refine wp_iconst dX11_text_54 ?_
            refine wp_istore_n dX11_text_55 (by decide) ?_
            refine wp_loc [(0, .ref (adr X 47)), (2, .int (iI ((sT σ).length : Int))), (3, .int (iI ((0 : Nat) : Int)))] ⟨rfl, rfl, rfl, trivial⟩ ?_
            have q9 := Lw (sT σ).length 0 (by omega)
            rw [cpy_0] at q9
            exact q9
        · refine wp_iconst dX11_text_37 ?_
          exact wp_iret dX11_text_38 rfl (by
  have z := tx_f (σ := σ) (s := s) c34
  rw [z.1, z.2]
  exact ⟨rfl, am2, (k0.tr k2).C⟩)

