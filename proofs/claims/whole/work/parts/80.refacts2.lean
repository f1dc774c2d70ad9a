/-! the reference: ACTS undone, images, draws -/
theorem hM_lie {h : Hp} {P : Int} {l : Lie} (hP : hI h 47 24 = P) (hl : LOK P l) (hx : ∀ i : Nat, (i : Int) < P → hI h 52 i = l.1 i) : hM h = l.1 := by
  funext i
  unfold hM
  rw [hP]
  by_cases q : 0 ≤ i ∧ i < P
  · rw [if_pos q, hx _ (by omega), show ((i.toNat : Nat) : Int) = i by omega]
  · rw [if_neg q, hl.2.1 i q]
theorem sM_lie {h : Hp} {P : Int} {l : Lie} (hl : LOK P l) (hx : ∀ i : Nat, i < 4 → hI h 54 i = l.2 i) : sM h = l.2 := by
  funext i
  unfold sM
  by_cases q : 0 ≤ i ∧ i < 4
  · rw [if_pos q, hx _ (by omega), show ((i.toNat : Nat) : Int) = i by omega]
  · rw [if_neg q, hl.2.2.2 i q]

set_option maxRecDepth 20000 in
theorem S_X11_undo {X : Cx} {h : Hp} {σ : Sg} (am : AM h σ) (o : SOK σ)  : Spec X mX11_undo 60 [.ref (adr X 47)] h (fun rv h' => rv = some (.int (iI (rUndo σ))) ∧ AM h' (nUndo σ) ∧ sameC h h') := by
  refine spec_wp (Nat.le_of_ble_eq_true rfl) (by decide +kernel) ?_
  refine wp_loc [(0, .ref (adr X 47))] ⟨rfl, trivial⟩ ?_
  refine wp_aload_n dX11_undo_0 rfl ?_
  refine wp_iconst dX11_undo_1 ?_
  refine wp_putI dX11_undo_2 plX11_95 rfl rfl ?_
  have k0 : KM h (sI h 47 0 0) := KM.sI (by unfold SMx; omega)
  have am := am.km k0
  generalize sI h 47 0 0 = h0 at *
  have gk := o.2.2.2.1
  have gb := gk.b
  have gkb := gk.2.1
  have e4 : hI h0 47 24 = gP (sG σ) := am.2.2.2.2.1.1
  have e5 : hI h0 47 26 = gA (sG σ) := am.2.2.2.2.1.2.1
  have e6 : hI h0 47 27 = gK (sG σ) := am.2.2.2.2.1.2.2.1
  have em : GM h0 = gE (sG σ) := am.gm
  have ep : gP (GM h0) = gP (sG σ) := e4
  have a1 := am.lis.1
  have a40 := o.2.2.2.2.2.1.1
  refine wp_aload_n dX11_undo_5 rfl ?_
  refine wp_getI dX11_undo_6 flX11_284 rfl rfl ?_
  rw [a1]
  refine wp_ifne 14 dX11_undo_9 (by decide) (by first | assumption | (unfold InR; omega)) (fun c9 => ?_) (fun c9 => ?_)
  · refine wp_aload_n dX11_undo_14 rfl ?_
    refine wp_dup dX11_undo_15 rfl ?_
    refine wp_getI dX11_undo_16 flX11_284 rfl rfl ?_
    rw [a1]
    refine wp_iconst dX11_undo_19 ?_
    refine wp_isub dX11_undo_20 ?_
    obtain ⟨l, r, hac⟩ : ∃ l r, sAc σ = l :: r := by
      cases hz : sAc σ with
      | nil => exact absurd (by rw [hz]; rfl) c9
      | cons l r => exact ⟨l, r, rfl⟩
    have hl1 : (sAc σ).length = r.length + 1 := by rw [hac]; rfl
    rw [hl1, show ((r.length + 1 : Nat) : Int) - 1 = ((r.length : Nat) : Int) by omega]
    refine wp_putI dX11_undo_21 plX11_284 rfl rfl ?_
    refine wp_bipush dX11_undo_24 rfl ?_
    refine wp_istore_n dX11_undo_26 (by decide) ?_
    refine wp_iconst dX11_undo_27 ?_
    refine wp_istore_n dX11_undo_28 (by decide) ?_
    have K95 : WP X mX11_undo 60 95 [(0, .ref (adr X 47)), (1, .int (iI 28)), (2, .int (iI ((4 : Nat) : Int)))] [] (cpy (cpy (sI h0 47 48 ((r.length : Nat) : Int)) 67 (28 * r.length) 52 0 24) 67 (28 * r.length + 24) 54 0 4) (fun rv h' => rv = some (.int (iI (rUndo σ))) ∧ AM h' (nUndo σ) ∧ sameC h h') := by
      refine wp_aload_n dX11_undo_95 rfl ?_
      refine wp_getI dX11_undo_96 flX11_284 rfl rfl ?_
      rw [cpy_I (by decide), cpy_I (by decide), hI_same]
      exact wp_iret dX11_undo_99 rfl (by
      have hk2 : ∀ c j, ¬ SAct c j → hI (cpy (cpy (sI h0 47 48 ((r.length : Nat) : Int)) 67 (28 * r.length) 52 0 24) 67 (28 * r.length + 24) 54 0 4) c j = hI h0 c j := fun c j q => by rw [cpy_I (by unfold SAct at q; omega), cpy_I (by unfold SAct at q; omega), hI_sI, if_neg (by unfold SAct at q; omega)]
      have lo := o.2.2.2.2.2.1.2 l (by rw [hac]; exact List.mem_cons_self)
      have q0 := am.lis.2 0 l (by rw [hac]; rfl)
      rw [hac, List.length_cons, show r.length + 1 - 1 - 0 = r.length by omega] at q0
      refine ⟨vi (by unfold rUndo; rw [hac]), ?_, sameC_tr k0.C (SAct.C hk2 rfl)⟩
      unfold nUndo
      rw [hac]
      refine AM.setLie am hk2 rfl ⟨by rw [cpy_I (by decide), cpy_I (by decide), hI_same], fun k x hx => ?_⟩ (hM_lie (by rw [cpy_I (by decide), cpy_I (by decide), hI_sI, if_neg (by omega)]; exact e4) lo (fun i hi => ?_)) (sM_lie lo (fun i hi => ?_))
      · have q := am.lis.2 (k + 1) x (by rw [hac]; exact hx)
        rw [hac, List.length_cons, show r.length + 1 - 1 - (k + 1) = r.length - 1 - k by omega] at q
        exact ⟨fun i hi => by rw [cpy_I (by decide), cpy_I (by decide), hI_sI, if_neg (by omega)]; exact q.1 i hi, fun i hi => by rw [cpy_I (by decide), cpy_I (by decide), hI_sI, if_neg (by omega)]; exact q.2 i hi⟩
      · rw [cpy_I (by decide), cpy_in (by omega) (by omega), hI_sI, if_neg (by omega), ← q0.1 i hi]; congr 1
      · rw [cpy_in (by omega) (by omega), cpy_I (by decide), hI_sI, if_neg (by omega), ← q0.2 i hi]; congr 1)
    have K60 : WP X mX11_undo 60 60 [(0, .ref (adr X 47)), (1, .int (iI 28)), (2, .int (iI ((24 : Nat) : Int)))] [] (cpy (sI h0 47 48 ((r.length : Nat) : Int)) 67 (28 * r.length) 52 0 24) (fun rv h' => rv = some (.int (iI (rUndo σ))) ∧ AM h' (nUndo σ) ∧ sameC h h') := by
      have Lub : ∀ (n : Nat) (k : Nat), (k + n = 4) → WP X mX11_undo 60 62 [(0, .ref (adr X 47)), (1, .int (iI 28)), (2, .int (iI (k : Int)))] [] (cpy (cpy (sI h0 47 48 ((r.length : Nat) : Int)) 67 (28 * r.length) 52 0 24) 67 (28 * r.length + 24) 54 0 k) (fun rv h' => rv = some (.int (iI (rUndo σ))) ∧ AM h' (nUndo σ) ∧ sameC h h') := by
        intro n
        induction n with
        | zero =>
          intro k hk
          refine wp_iload_n dX11_undo_62 rfl ?_
          refine wp_iconst dX11_undo_63 ?_
          refine wp_icmpge 95 dX11_undo_64 (by decide) (by unfold InR; omega) (by unfold InR; omega) (fun c64 => ?_) (fun c64 => ?_)
          · rw [show k = 4 by omega]
            exact K95
          · exact absurd c64 (by omega)
        | succ n ih =>
          intro k hk
          refine wp_iload_n dX11_undo_62 rfl ?_
          refine wp_iconst dX11_undo_63 ?_
          refine wp_icmpge 95 dX11_undo_64 (by decide) (by unfold InR; omega) (by unfold InR; omega) (fun c64 => ?_) (fun c64 => ?_)
          · exact absurd c64 (by omega)
          · refine wp_aload_n dX11_undo_67 rfl ?_
            refine wp_getC dX11_undo_68 flX11_43 rfl rfl ?_
            refine wp_iload_n dX11_undo_71 rfl ?_
            refine wp_aload_n dX11_undo_72 rfl ?_
            refine wp_getC dX11_undo_73 flX11_86 rfl rfl ?_
            refine wp_iload_n dX11_undo_76 rfl ?_
            refine wp_aload_n dX11_undo_77 rfl ?_
            refine wp_getI dX11_undo_78 flX11_284 rfl rfl ?_
            rw [cpy_I (by decide), cpy_I (by decide), hI_same]
            refine wp_imul dX11_undo_81 ?_
            refine wp_bipush dX11_undo_82 rfl ?_
            refine wp_iadd dX11_undo_84 ?_
            refine wp_iload_n dX11_undo_85 rfl ?_
            refine wp_iadd dX11_undo_86 ?_
            refine wp_iald dX11_undo_87 rfl (by omega) (by omega) ?_
            rw [show (28 * ((r.length : Nat) : Int) + 24 + ((k : Nat) : Int)).toNat = (28 * r.length + 24) + k by omega, cpy_I (by decide)]
            refine wp_iast dX11_undo_88 rfl (by omega) (by omega) ?_
            rw [show (((k : Nat) : Int)).toNat = 0 + k by omega, cpy_s]
            refine wp_iinc dX11_undo_89 rfl (by decide) ?_
            refine wp_goto 62 dX11_undo_92 (by decide) ?_
            refine wp_loc [(0, .ref (adr X 47)), (1, .int (iI 28)), (2, .int (iI ((k + 1 : Nat) : Int)))] ⟨rfl, rfl, rfl, trivial⟩ ?_
            exact ih (k + 1) (by omega)
      refine wp_iconst dX11_undo_60 ?_
      refine wp_istore_n dX11_undo_61 (by decide) ?_
      refine wp_loc [(0, .ref (adr X 47)), (1, .int (iI 28)), (2, .int (iI ((0 : Nat) : Int)))] ⟨rfl, rfl, rfl, trivial⟩ ?_
      have q := Lub 4 0 (by omega)
      rw [cpy_0] at q
      exact q
    have Lua : ∀ (n : Nat) (k : Nat), (k + n = 24) → WP X mX11_undo 60 29 [(0, .ref (adr X 47)), (1, .int (iI 28)), (2, .int (iI (k : Int)))] [] (cpy (sI h0 47 48 ((r.length : Nat) : Int)) 67 (28 * r.length) 52 0 k) (fun rv h' => rv = some (.int (iI (rUndo σ))) ∧ AM h' (nUndo σ) ∧ sameC h h') := by
      intro n
      induction n with
      | zero =>
        intro k hk
        refine wp_iload_n dX11_undo_29 rfl ?_
        refine wp_bipush dX11_undo_30 rfl ?_
        refine wp_icmpge 60 dX11_undo_32 (by decide) (by unfold InR; omega) (by unfold InR; omega) (fun c32 => ?_) (fun c32 => ?_)
        · rw [show k = 24 by omega]
          exact K60
        · exact absurd c32 (by omega)
      | succ n ih =>
        intro k hk
        refine wp_iload_n dX11_undo_29 rfl ?_
        refine wp_bipush dX11_undo_30 rfl ?_
        refine wp_icmpge 60 dX11_undo_32 (by decide) (by unfold InR; omega) (by unfold InR; omega) (fun c32 => ?_) (fun c32 => ?_)
        · exact absurd c32 (by omega)
        · refine wp_aload_n dX11_undo_35 rfl ?_
          refine wp_getC dX11_undo_36 flX11_37 rfl rfl ?_
          refine wp_iload_n dX11_undo_39 rfl ?_
          refine wp_aload_n dX11_undo_40 rfl ?_
          refine wp_getC dX11_undo_41 flX11_86 rfl rfl ?_
          refine wp_iload_n dX11_undo_44 rfl ?_
          refine wp_aload_n dX11_undo_45 rfl ?_
          refine wp_getI dX11_undo_46 flX11_284 rfl rfl ?_
          rw [cpy_I (by decide), hI_same]
          refine wp_imul dX11_undo_49 ?_
          refine wp_iload_n dX11_undo_50 rfl ?_
          refine wp_iadd dX11_undo_51 ?_
          refine wp_iald dX11_undo_52 rfl (by omega) (by omega) ?_
          rw [show (28 * ((r.length : Nat) : Int) + ((k : Nat) : Int)).toNat = (28 * r.length) + k by omega, cpy_I (by decide)]
          refine wp_iast dX11_undo_53 rfl (by omega) (by omega) ?_
          rw [show (((k : Nat) : Int)).toNat = 0 + k by omega, cpy_s]
          refine wp_iinc dX11_undo_54 rfl (by decide) ?_
          refine wp_goto 29 dX11_undo_57 (by decide) ?_
          refine wp_loc [(0, .ref (adr X 47)), (1, .int (iI 28)), (2, .int (iI ((k + 1 : Nat) : Int)))] ⟨rfl, rfl, rfl, trivial⟩ ?_
          exact ih (k + 1) (by omega)
    refine wp_loc [(0, .ref (adr X 47)), (1, .int (iI 28)), (2, .int (iI ((0 : Nat) : Int)))] ⟨rfl, rfl, rfl, trivial⟩ ?_
    have q := Lua 24 0 (by omega)
    rw [cpy_0] at q
    exact q
  · refine wp_iconst dX11_undo_12 ?_
    exact wp_iret dX11_undo_13 rfl (by
  have hz : sAc σ = [] := by
    cases hz : sAc σ with
    | nil => rfl
    | cons l r => rw [hz, List.length_cons] at c9; exact absurd c9 (by omega)
  exact ⟨vi (by unfold rUndo; rw [hz]), by unfold nUndo; rw [hz]; exact am, k0.C⟩)

set_option maxRecDepth 20000 in
theorem S_X11_image {X : Cx} {h : Hp} {σ : Sg} (am : AM h σ) (o : SOK σ)  : Spec X mX11_image 60 [.ref (adr X 47)] h (fun rv h' => rv = some (.int (iI (rImage σ))) ∧ AM h' (nImage σ) ∧ sameC h h') := by
  refine spec_wp (Nat.le_of_ble_eq_true rfl) (by decide +kernel) ?_
  refine wp_loc [(0, .ref (adr X 47))] ⟨rfl, trivial⟩ ?_
  refine wp_aload_n dX11_image_0 rfl ?_
  refine wp_iconst dX11_image_1 ?_
  refine wp_putI dX11_image_2 plX11_95 rfl rfl ?_
  have k0 : KM h (sI h 47 0 0) := KM.sI (by unfold SMx; omega)
  have am := am.km k0
  generalize sI h 47 0 0 = h0 at *
  have gk := o.2.2.2.1
  have gb := gk.b
  have gkb := gk.2.1
  have e4 : hI h0 47 24 = gP (sG σ) := am.2.2.2.2.1.1
  have e5 : hI h0 47 26 = gA (sG σ) := am.2.2.2.2.1.2.1
  have e6 : hI h0 47 27 = gK (sG σ) := am.2.2.2.2.1.2.2.1
  have em : GM h0 = gE (sG σ) := am.gm
  have ep : gP (GM h0) = gP (sG σ) := e4
  refine wp_aload_n dX11_image_5 rfl ?_
  refine wp_getI dX11_image_6 flX11_272 rfl rfl ?_
  refine wp_ifne 14 dX11_image_9 (by decide) (by first | assumption | (unfold InR; omega)) (fun c9 => ?_) (fun c9 => ?_)
  · refine wp_iconst dX11_image_14 ?_
    refine wp_istore_n dX11_image_15 (by decide) ?_
    have K65 : WP X mX11_image 60 65 [(0, .ref (adr X 47)), (1, .int (iI ((4 : Nat) : Int)))] [] (cpy (cpy h0 52 0 68 0 24) 54 0 69 0 4) (fun rv h' => rv = some (.int (iI (rImage σ))) ∧ AM h' (nImage σ) ∧ sameC h h') := by
      refine wp_aload_n dX11_image_65 rfl ?_
      refine wp_iconst dX11_image_66 ?_
      refine wp_putZ dX11_image_67 plX11_287 rfl rfl (Or.inr rfl) ?_
      refine wp_aload_n dX11_image_70 rfl ?_
      refine wp_getI dX11_image_71 flX11_272 rfl rfl ?_
      rw [hI_sI, if_neg (by omega), cpy_I (by decide), cpy_I (by decide), e4]
      exact wp_iret dX11_image_74 rfl (by
      have hk2 : ∀ c j, ¬ (c = 68 ∨ c = 69 ∨ (c = 47 ∧ j = 51)) → hI (sI (cpy (cpy h0 52 0 68 0 24) 54 0 69 0 4) 47 51 1) c j = hI h0 c j := fun c j q => by rw [hI_sI, if_neg (by omega), cpy_I (by omega), cpy_I (by omega)]
      refine ⟨vi (by unfold rImage; rw [if_neg (by omega)]), ?_, sameC_tr k0.C (fun c hc => ⟨by funext j; exact hk2 c j (by omega), rfl, rfl⟩)⟩
      unfold nImage
      rw [if_neg (by omega)]
      have lz := am.liz o
      obtain ⟨⟨t1, t2⟩, ⟨w1, w2⟩, d1, r1, ⟨g1, g2, g3, g4, g5, g6⟩, ⟨k1, k2⟩, ⟨c1, c2⟩, ⟨i1, i2⟩⟩ := am
      refine ⟨⟨?_, fun i hi => ?_⟩, ⟨?_, fun w t ht => ?_⟩, ?_, r1, ⟨?_, ?_, ?_, ?_, ?_, fun s hs => ?_⟩, ⟨?_, fun i q hq => ?_⟩, ⟨?_, fun k l hl => ?_⟩, ⟨?_, fun l hl => ?_⟩⟩
      · rw [hk2 47 6 (by omega)]; exact t1
      · rw [hk2 48 i (by omega)]; exact t2 i hi
      · rw [hk2 47 7 (by omega)]; exact w1
      · obtain ⟨q1, q2⟩ := w2 w t ht
        exact ⟨by rw [hk2 50 _ (by omega)]; exact q1, fun i hi => by rw [hk2 49 _ (by omega)]; exact q2 i hi⟩
      · rw [hk2 47 31 (by omega)]; exact d1
      · rw [hk2 47 24 (by omega)]; exact g1
      · rw [hk2 47 26 (by omega)]; exact g2
      · rw [hk2 47 27 (by omega)]; exact g3
      · rw [hM_eq (h := h0) (hk2 47 24 (by omega)) (fun i => hk2 52 i (by omega))]; exact g4
      · rw [sM_eq (h := h0) (fun i => hk2 54 i (by omega))]; exact g5
      · rw [hk2 56 _ (by omega), hk2 56 _ (by omega)]; exact g6 s hs
      · rw [hk2 47 42 (by omega)]; exact k1
      · rw [hk2 63 _ (by omega), hk2 64 _ (by omega)]; exact k2 i q hq
      · rw [hk2 47 48 (by omega)]; exact c1
      · have q := c2 k l hl
        exact ⟨fun i hi => by rw [hk2 67 _ (by omega)]; exact q.1 i hi, fun i hi => by rw [hk2 67 _ (by omega)]; exact q.2 i hi⟩
      · rw [hI_same]; rfl
      · have hl : gLie (sG σ) = l := Option.some.inj hl
        subst hl
        refine ⟨fun i hi => ?_, fun i hi => ?_⟩
        · rw [hI_sI, if_neg (by omega), cpy_I (by decide), cpy_in (by omega) (by have := gb; have hi2 : (i : Int) < gP (sG σ) := hi; omega), ← lz.1 i hi]; congr 1; omega
        · rw [hI_sI, if_neg (by omega), cpy_in (by omega) (by omega), cpy_I (by decide), ← lz.2 i hi]; congr 1; omega)
    have K40 : WP X mX11_image 60 40 [(0, .ref (adr X 47)), (1, .int (iI ((24 : Nat) : Int)))] [] (cpy h0 52 0 68 0 24) (fun rv h' => rv = some (.int (iI (rImage σ))) ∧ AM h' (nImage σ) ∧ sameC h h') := by
      have Lib : ∀ (n : Nat) (k : Nat), (k + n = 4) → WP X mX11_image 60 42 [(0, .ref (adr X 47)), (1, .int (iI (k : Int)))] [] (cpy (cpy h0 52 0 68 0 24) 54 0 69 0 k) (fun rv h' => rv = some (.int (iI (rImage σ))) ∧ AM h' (nImage σ) ∧ sameC h h') := by
        intro n
        induction n with
        | zero =>
          intro k hk
          refine wp_iload_n dX11_image_42 rfl ?_
          refine wp_iconst dX11_image_43 ?_
          refine wp_icmpge 65 dX11_image_44 (by decide) (by unfold InR; omega) (by unfold InR; omega) (fun c44 => ?_) (fun c44 => ?_)
          · rw [show k = 4 by omega]
            exact K65
          · exact absurd c44 (by omega)
        | succ n ih =>
          intro k hk
          refine wp_iload_n dX11_image_42 rfl ?_
          refine wp_iconst dX11_image_43 ?_
          refine wp_icmpge 65 dX11_image_44 (by decide) (by unfold InR; omega) (by unfold InR; omega) (fun c44 => ?_) (fun c44 => ?_)
          · exact absurd c44 (by omega)
          · refine wp_aload_n dX11_image_47 rfl ?_
            refine wp_getC dX11_image_48 flX11_92 rfl rfl ?_
            refine wp_iload_n dX11_image_51 rfl ?_
            refine wp_aload_n dX11_image_52 rfl ?_
            refine wp_getC dX11_image_53 flX11_43 rfl rfl ?_
            refine wp_iload_n dX11_image_56 rfl ?_
            refine wp_iald dX11_image_57 rfl (by omega) (by omega) ?_
            rw [show (((k : Nat) : Int)).toNat = 0 + k by omega, cpy_I (by decide)]
            refine wp_iast dX11_image_58 rfl (by omega) (by omega) ?_
            rw [show (((k : Nat) : Int)).toNat = 0 + k by omega, cpy_s]
            refine wp_iinc dX11_image_59 rfl (by decide) ?_
            refine wp_goto 42 dX11_image_62 (by decide) ?_
            refine wp_loc [(0, .ref (adr X 47)), (1, .int (iI ((k + 1 : Nat) : Int)))] ⟨rfl, rfl, trivial⟩ ?_
            exact ih (k + 1) (by omega)
      refine wp_iconst dX11_image_40 ?_
      refine wp_istore_n dX11_image_41 (by decide) ?_
      refine wp_loc [(0, .ref (adr X 47)), (1, .int (iI ((0 : Nat) : Int)))] ⟨rfl, rfl, trivial⟩ ?_
      have q := Lib 4 0 (by omega)
      rw [cpy_0] at q
      exact q
    have Lia : ∀ (n : Nat) (k : Nat), (k + n = 24) → WP X mX11_image 60 16 [(0, .ref (adr X 47)), (1, .int (iI (k : Int)))] [] (cpy h0 52 0 68 0 k) (fun rv h' => rv = some (.int (iI (rImage σ))) ∧ AM h' (nImage σ) ∧ sameC h h') := by
      intro n
      induction n with
      | zero =>
        intro k hk
        refine wp_iload_n dX11_image_16 rfl ?_
        refine wp_bipush dX11_image_17 rfl ?_
        refine wp_icmpge 40 dX11_image_19 (by decide) (by unfold InR; omega) (by unfold InR; omega) (fun c19 => ?_) (fun c19 => ?_)
        · rw [show k = 24 by omega]
          exact K40
        · exact absurd c19 (by omega)
      | succ n ih =>
        intro k hk
        refine wp_iload_n dX11_image_16 rfl ?_
        refine wp_bipush dX11_image_17 rfl ?_
        refine wp_icmpge 40 dX11_image_19 (by decide) (by unfold InR; omega) (by unfold InR; omega) (fun c19 => ?_) (fun c19 => ?_)
        · exact absurd c19 (by omega)
        · refine wp_aload_n dX11_image_22 rfl ?_
          refine wp_getC dX11_image_23 flX11_89 rfl rfl ?_
          refine wp_iload_n dX11_image_26 rfl ?_
          refine wp_aload_n dX11_image_27 rfl ?_
          refine wp_getC dX11_image_28 flX11_37 rfl rfl ?_
          refine wp_iload_n dX11_image_31 rfl ?_
          refine wp_iald dX11_image_32 rfl (by omega) (by omega) ?_
          rw [show (((k : Nat) : Int)).toNat = 0 + k by omega, cpy_I (by decide)]
          refine wp_iast dX11_image_33 rfl (by omega) (by omega) ?_
          rw [show (((k : Nat) : Int)).toNat = 0 + k by omega, cpy_s]
          refine wp_iinc dX11_image_34 rfl (by decide) ?_
          refine wp_goto 16 dX11_image_37 (by decide) ?_
          refine wp_loc [(0, .ref (adr X 47)), (1, .int (iI ((k + 1 : Nat) : Int)))] ⟨rfl, rfl, trivial⟩ ?_
          exact ih (k + 1) (by omega)
    refine wp_loc [(0, .ref (adr X 47)), (1, .int (iI ((0 : Nat) : Int)))] ⟨rfl, rfl, trivial⟩ ?_
    have q := Lia 24 0 (by omega)
    rw [cpy_0] at q
    exact q
  · refine wp_iconst dX11_image_12 ?_
    exact wp_iret dX11_image_13 rfl (⟨vi (by unfold rImage; rw [if_pos (by omega)]), by unfold nImage; rw [if_pos (by omega)]; exact am, k0.C⟩)

set_option maxRecDepth 20000 in
theorem S_X11_back {X : Cx} {h : Hp} {σ : Sg} (am : AM h σ) (o : SOK σ)  : Spec X mX11_back 60 [.ref (adr X 47)] h (fun rv h' => rv = some (.int (iI (rBack σ))) ∧ AM h' (nBack σ) ∧ sameC h h') := by
  refine spec_wp (Nat.le_of_ble_eq_true rfl) (by decide +kernel) ?_
  refine wp_loc [(0, .ref (adr X 47))] ⟨rfl, trivial⟩ ?_
  refine wp_aload_n dX11_back_0 rfl ?_
  refine wp_iconst dX11_back_1 ?_
  refine wp_putI dX11_back_2 plX11_95 rfl rfl ?_
  have k0 : KM h (sI h 47 0 0) := KM.sI (by unfold SMx; omega)
  have am := am.km k0
  generalize sI h 47 0 0 = h0 at *
  have gk := o.2.2.2.1
  have gb := gk.b
  have gkb := gk.2.1
  have e4 : hI h0 47 24 = gP (sG σ) := am.2.2.2.2.1.1
  have e5 : hI h0 47 26 = gA (sG σ) := am.2.2.2.2.1.2.1
  have e6 : hI h0 47 27 = gK (sG σ) := am.2.2.2.2.1.2.2.1
  have em : GM h0 = gE (sG σ) := am.gm
  have ep : gP (GM h0) = gP (sG σ) := e4
  refine wp_aload_n dX11_back_5 rfl ?_
  refine wp_getI dX11_back_6 flX11_287 rfl rfl ?_
  rw [am.2.2.2.2.2.2.2.1]
  refine wp_ifneb 14 dX11_back_9 (by decide) (fun c9 => ?_) (fun c9 => ?_)
  · refine wp_iconst dX11_back_14 ?_
    refine wp_istore_n dX11_back_15 (by decide) ?_
    obtain ⟨l, him⟩ : ∃ l, sIm σ = some l := Option.isSome_iff_exists.mp c9
    have K65 : WP X mX11_back 60 65 [(0, .ref (adr X 47)), (1, .int (iI ((4 : Nat) : Int)))] [] (cpy (cpy h0 68 0 52 0 24) 69 0 54 0 4) (fun rv h' => rv = some (.int (iI (rBack σ))) ∧ AM h' (nBack σ) ∧ sameC h h') := by
      refine wp_aload_n dX11_back_65 rfl ?_
      refine wp_iconst dX11_back_66 ?_
      refine wp_putI dX11_back_67 plX11_284 rfl rfl ?_
      refine wp_aload_n dX11_back_70 rfl ?_
      refine wp_getI dX11_back_71 flX11_272 rfl rfl ?_
      rw [hI_sI, if_neg (by omega), cpy_I (by decide), cpy_I (by decide), e4]
      exact wp_iret dX11_back_74 rfl (by
      have hk2 : ∀ c j, ¬ SAct c j → hI (sI (cpy (cpy h0 68 0 52 0 24) 69 0 54 0 4) 47 48 0) c j = hI h0 c j := fun c j q => by rw [hI_sI, if_neg (by unfold SAct at q; omega), cpy_I (by unfold SAct at q; omega), cpy_I (by unfold SAct at q; omega)]
      have lo := o.2.2.2.2.2.2.1 l him
      have q0 := am.2.2.2.2.2.2.2.2 l him
      refine ⟨vi (by unfold rBack; rw [him]), ?_, sameC_tr k0.C (SAct.C hk2 rfl)⟩
      unfold nBack
      rw [him]
      refine AM.setLie (l := []) am hk2 rfl ⟨hI_same, fun k x hx => by cases hx⟩ (hM_lie (by rw [hI_sI, if_neg (by omega), cpy_I (by decide), cpy_I (by decide)]; exact e4) lo (fun i hi => ?_)) (sM_lie lo (fun i hi => ?_))
      · rw [hI_sI, if_neg (by omega), cpy_I (by decide), cpy_in (by omega) (by omega), ← q0.1 i hi]; congr 1
      · rw [hI_sI, if_neg (by omega), cpy_in (by omega) (by omega), cpy_I (by decide), ← q0.2 i hi]; congr 1)
    have K40 : WP X mX11_back 60 40 [(0, .ref (adr X 47)), (1, .int (iI ((24 : Nat) : Int)))] [] (cpy h0 68 0 52 0 24) (fun rv h' => rv = some (.int (iI (rBack σ))) ∧ AM h' (nBack σ) ∧ sameC h h') := by
      have Lbb : ∀ (n : Nat) (k : Nat), (k + n = 4) → WP X mX11_back 60 42 [(0, .ref (adr X 47)), (1, .int (iI (k : Int)))] [] (cpy (cpy h0 68 0 52 0 24) 69 0 54 0 k) (fun rv h' => rv = some (.int (iI (rBack σ))) ∧ AM h' (nBack σ) ∧ sameC h h') := by
        intro n
        induction n with
        | zero =>
          intro k hk
          refine wp_iload_n dX11_back_42 rfl ?_
          refine wp_iconst dX11_back_43 ?_
          refine wp_icmpge 65 dX11_back_44 (by decide) (by unfold InR; omega) (by unfold InR; omega) (fun c44 => ?_) (fun c44 => ?_)
          · rw [show k = 4 by omega]
            exact K65
          · exact absurd c44 (by omega)
        | succ n ih =>
          intro k hk
          refine wp_iload_n dX11_back_42 rfl ?_
          refine wp_iconst dX11_back_43 ?_
          refine wp_icmpge 65 dX11_back_44 (by decide) (by unfold InR; omega) (by unfold InR; omega) (fun c44 => ?_) (fun c44 => ?_)
          · exact absurd c44 (by omega)
          · refine wp_aload_n dX11_back_47 rfl ?_
            refine wp_getC dX11_back_48 flX11_43 rfl rfl ?_
            refine wp_iload_n dX11_back_51 rfl ?_
            refine wp_aload_n dX11_back_52 rfl ?_
            refine wp_getC dX11_back_53 flX11_92 rfl rfl ?_
            refine wp_iload_n dX11_back_56 rfl ?_
            refine wp_iald dX11_back_57 rfl (by omega) (by omega) ?_
            rw [show (((k : Nat) : Int)).toNat = 0 + k by omega, cpy_I (by decide)]
            refine wp_iast dX11_back_58 rfl (by omega) (by omega) ?_
            rw [show (((k : Nat) : Int)).toNat = 0 + k by omega, cpy_s]
            refine wp_iinc dX11_back_59 rfl (by decide) ?_
            refine wp_goto 42 dX11_back_62 (by decide) ?_
            refine wp_loc [(0, .ref (adr X 47)), (1, .int (iI ((k + 1 : Nat) : Int)))] ⟨rfl, rfl, trivial⟩ ?_
            exact ih (k + 1) (by omega)
      refine wp_iconst dX11_back_40 ?_
      refine wp_istore_n dX11_back_41 (by decide) ?_
      refine wp_loc [(0, .ref (adr X 47)), (1, .int (iI ((0 : Nat) : Int)))] ⟨rfl, rfl, trivial⟩ ?_
      have q := Lbb 4 0 (by omega)
      rw [cpy_0] at q
      exact q
    have Lba : ∀ (n : Nat) (k : Nat), (k + n = 24) → WP X mX11_back 60 16 [(0, .ref (adr X 47)), (1, .int (iI (k : Int)))] [] (cpy h0 68 0 52 0 k) (fun rv h' => rv = some (.int (iI (rBack σ))) ∧ AM h' (nBack σ) ∧ sameC h h') := by
      intro n
      induction n with
      | zero =>
        intro k hk
        refine wp_iload_n dX11_back_16 rfl ?_
        refine wp_bipush dX11_back_17 rfl ?_
        refine wp_icmpge 40 dX11_back_19 (by decide) (by unfold InR; omega) (by unfold InR; omega) (fun c19 => ?_) (fun c19 => ?_)
        · rw [show k = 24 by omega]
          exact K40
        · exact absurd c19 (by omega)
      | succ n ih =>
        intro k hk
        refine wp_iload_n dX11_back_16 rfl ?_
        refine wp_bipush dX11_back_17 rfl ?_
        refine wp_icmpge 40 dX11_back_19 (by decide) (by unfold InR; omega) (by unfold InR; omega) (fun c19 => ?_) (fun c19 => ?_)
        · exact absurd c19 (by omega)
        · refine wp_aload_n dX11_back_22 rfl ?_
          refine wp_getC dX11_back_23 flX11_37 rfl rfl ?_
          refine wp_iload_n dX11_back_26 rfl ?_
          refine wp_aload_n dX11_back_27 rfl ?_
          refine wp_getC dX11_back_28 flX11_89 rfl rfl ?_
          refine wp_iload_n dX11_back_31 rfl ?_
          refine wp_iald dX11_back_32 rfl (by omega) (by omega) ?_
          rw [show (((k : Nat) : Int)).toNat = 0 + k by omega, cpy_I (by decide)]
          refine wp_iast dX11_back_33 rfl (by omega) (by omega) ?_
          rw [show (((k : Nat) : Int)).toNat = 0 + k by omega, cpy_s]
          refine wp_iinc dX11_back_34 rfl (by decide) ?_
          refine wp_goto 16 dX11_back_37 (by decide) ?_
          refine wp_loc [(0, .ref (adr X 47)), (1, .int (iI ((k + 1 : Nat) : Int)))] ⟨rfl, rfl, trivial⟩ ?_
          exact ih (k + 1) (by omega)
    refine wp_loc [(0, .ref (adr X 47)), (1, .int (iI ((0 : Nat) : Int)))] ⟨rfl, rfl, trivial⟩ ?_
    have q := Lba 24 0 (by omega)
    rw [cpy_0] at q
    exact q
  · refine wp_iconst dX11_back_12 ?_
    exact wp_iret dX11_back_13 rfl (by
  have hz : sIm σ = none := by
    cases hz : sIm σ with
    | none => rfl
    | some l => rw [hz] at c9; exact absurd rfl c9
  exact ⟨vi (by unfold rBack; rw [hz]), by unfold nBack; rw [hz]; exact am, k0.C⟩)

def drH (h : Hp) (x : Int64) (m : Int) (k : Nat) : Hp := sA h 52 (fun i => if i < k then dval x m i else hI h 52 i)
theorem drH_0 (h : Hp) (x : Int64) (m : Int) : drH h x m 0 = h := by
  unfold drH
  exact sI_same (fun i => by rw [if_neg (by omega)])
theorem drH_s (h : Hp) (x : Int64) (m : Int) (k : Nat) : sI (drH h x m k) 52 k (drw (xk x (k + 1)) m) = drH h x m (k + 1) := by
  unfold drH
  rw [sI_sA]
  congr 1
  funext i
  by_cases e : i = k
  · rw [if_pos e, if_pos (by omega), e]; rfl
  · rw [if_neg e]
    by_cases q : i < k
    · rw [if_pos q, if_pos (by omega)]
    · rw [if_neg q, if_neg (by omega)]
theorem drH_I {h : Hp} {x : Int64} {m : Int} {k c j : Nat} (hc : c ≠ 52) : hI (drH h x m k) c j = hI h c j := by unfold drH; rw [hI_sA, if_neg hc]
theorem drH_in {h : Hp} {x : Int64} {m : Int} {k j : Nat} (hj : j < k) : hI (drH h x m k) 52 j = dval x m j := by unfold drH; rw [hI_sA, if_pos rfl, if_pos hj]
theorem xk_s (x : Int64) (k : Nat) : nxX (xk x k) = xk x (k + 1) := rfl

set_option maxRecDepth 20000 in
theorem S_X11_drawn {X : Cx} {h : Hp} {σ : Sg} (am : AM h σ) (o : SOK σ) {x : Int64} {m : Int} (hm : InR m) : Spec X mX11_drawn 60 [.ref (adr X 47), .long x, .int (iI m)] h (fun rv h' => rv = some (.int (iI (rDrawn σ m))) ∧ AM h' (nDrawn σ x m) ∧ sameC h h') := by
  refine spec_wp (Nat.le_of_ble_eq_true rfl) (by decide +kernel) ?_
  refine wp_loc [(0, .ref (adr X 47)), (1, .long x), (3, .int (iI m))] ⟨rfl, rfl, rfl, trivial⟩ ?_
  refine wp_aload_n dX11_drawn_0 rfl ?_
  refine wp_iconst dX11_drawn_1 ?_
  refine wp_putI dX11_drawn_2 plX11_95 rfl rfl ?_
  have k0 : KM h (sI h 47 0 0) := KM.sI (by unfold SMx; omega)
  have am := am.km k0
  generalize sI h 47 0 0 = h0 at *
  have gk := o.2.2.2.1
  have gb := gk.b
  have gkb := gk.2.1
  have e4 : hI h0 47 24 = gP (sG σ) := am.2.2.2.2.1.1
  have e5 : hI h0 47 26 = gA (sG σ) := am.2.2.2.2.1.2.1
  have e6 : hI h0 47 27 = gK (sG σ) := am.2.2.2.2.1.2.2.1
  have em : GM h0 = gE (sG σ) := am.gm
  have ep : gP (GM h0) = gP (sG σ) := e4
  refine wp_aload_n dX11_drawn_5 rfl ?_
  refine wp_getI dX11_drawn_6 flX11_272 rfl rfl ?_
  refine wp_ifeq 24 dX11_drawn_9 (by decide) (by first | assumption | (unfold InR; omega)) (fun c9 => ?_) (fun c9 => ?_)
  · refine wp_iconst dX11_drawn_24 ?_
    exact wp_iret dX11_drawn_25 rfl (⟨vi (by unfold rDrawn; rw [if_neg (by omega)]), by unfold nDrawn; rw [if_neg (by omega)]; exact am, k0.C⟩)
  · refine wp_iload_n dX11_drawn_12 rfl ?_
    refine wp_i2lI dX11_drawn_13 (by first | assumption | (unfold InR; omega)) ?_
    refine wp_lconst (v := 0) dX11_drawn_14 rfl ?_
    refine wp_ldc2 (v := 99) dX11_drawn_15 klX11_376 ?_
    refine wp_callSp dX11_drawn_18 mlX11_219 msX11_isIn (S_X11_isIn (a := m) (b := 0) (c := 99) (by first | (exact InR.L (by assumption)) | (unfold InL; omega)) (by unfold InL; omega) (by unfold InL; omega)) rfl rfl (by decide) (by decide) (Nat.le_of_ble_eq_true rfl) ?_
    refine wp_ifneb 26 dX11_drawn_21 (by decide) (fun c21 => ?_) (fun c21 => ?_)
    · refine wp_aload_n dX11_drawn_26 rfl ?_
      refine wp_callV dX11_drawn_27 mlX11_411 mvX11_remember (S_X11_remember (l0 := gLie (sG σ)) (by omega) am.lis o.2.2.2.2.2.1.1 (am.liz o)) rfl rfl (by decide) (by decide) rfl rfl rfl (Nat.le_of_ble_eq_true rfl) ?_
      rintro rv h1 ⟨rfl, ls1, kp1⟩
      refine wp_lload_n dX11_drawn_30 rfl ?_
      refine wp_lstore dX11_drawn_31 (by decide) ?_
      refine wp_iconst dX11_drawn_33 ?_
      refine wp_istore dX11_drawn_34 (by decide) ?_
      have e24 : hI h1 47 24 = gP (sG σ) := by rw [kp1.1 47 24 (by unfold SRe; omega)]; exact e4
      have K81 : WP X mX11_drawn 60 81 [(0, .ref (adr X 47)), (1, .long x), (3, .int (iI m)), (4, .long (xk x (gP (sG σ)).toNat)), (6, .int (iI (((gP (sG σ)).toNat : Nat) : Int)))] [] (drH h1 x (m + 1) (gP (sG σ)).toNat) (fun rv h' => rv = some (.int (iI (rDrawn σ m))) ∧ AM h' (nDrawn σ x m) ∧ sameC h h') := by
        refine wp_aload_n dX11_drawn_81 rfl ?_
        refine wp_getI dX11_drawn_82 flX11_284 rfl rfl ?_
        rw [drH_I (by decide), ls1.1]
        exact wp_iret dX11_drawn_85 rfl (by
        have hk2 : ∀ c j, ¬ SAct c j → hI (drH h1 x (m + 1) (gP (sG σ)).toNat) c j = hI h0 c j := fun c j q => by rw [drH_I (by unfold SAct at q; omega), kp1.1 c j (by unfold SAct at q; unfold SRe; omega)]
        refine ⟨vi (by unfold rDrawn; rw [if_pos (by omega), pushA_ac]), ?_, sameC_tr k0.C (SAct.C hk2 kp1.2)⟩
        unfold nDrawn
        rw [if_pos (by omega)]
        refine AM.setLie am hk2 (by show h1.2.2 = _; rw [kp1.2]) ⟨by rw [drH_I (by decide)]; exact ls1.1, fun k x hx => ⟨fun i hi => by rw [drH_I (by decide)]; exact (ls1.2 k x hx).1 i hi, fun i hi => by rw [drH_I (by decide)]; exact (ls1.2 k x hx).2 i hi⟩⟩ ?_ ?_
        · funext i
          unfold hM
          rw [drH_I (by decide), e24]
          show _ = if 0 ≤ i ∧ i < gP (sG σ) then dval x (m + 1) i.toNat else 0
          by_cases q : 0 ≤ i ∧ i < gP (sG σ)
          · rw [if_pos q, if_pos q, drH_in (by omega)]
          · rw [if_neg q, if_neg q]
        · rw [sM_eq (h := h0) (fun i => by rw [drH_I (by decide)]; exact kp1.1 54 i (by unfold SRe; omega))]
          exact am.2.2.2.2.1.2.2.2.2.1)
      have Ldr : ∀ (n : Nat) (k : Nat), (k + n = (gP (sG σ)).toNat) → WP X mX11_drawn 60 36 [(0, .ref (adr X 47)), (1, .long x), (3, .int (iI m)), (4, .long (xk x k)), (6, .int (iI (k : Int)))] [] (drH h1 x (m + 1) k) (fun rv h' => rv = some (.int (iI (rDrawn σ m))) ∧ AM h' (nDrawn σ x m) ∧ sameC h h') := by
        intro n
        induction n with
        | zero =>
          intro k hk
          refine wp_iload dX11_drawn_36 rfl ?_
          refine wp_aload_n dX11_drawn_38 rfl ?_
          refine wp_getI dX11_drawn_39 flX11_272 rfl rfl ?_
          rw [drH_I (by decide), e24]
          refine wp_icmpge 81 dX11_drawn_42 (by decide) (by unfold InR; omega) (by unfold InR; omega) (fun c42 => ?_) (fun c42 => ?_)
          · rw [show k = (gP (sG σ)).toNat by omega]
            exact K81
          · exact absurd c42 (by omega)
        | succ n ih =>
          intro k hk
          refine wp_iload dX11_drawn_36 rfl ?_
          refine wp_aload_n dX11_drawn_38 rfl ?_
          refine wp_getI dX11_drawn_39 flX11_272 rfl rfl ?_
          rw [drH_I (by decide), e24]
          refine wp_icmpge 81 dX11_drawn_42 (by decide) (by unfold InR; omega) (by unfold InR; omega) (fun c42 => ?_) (fun c42 => ?_)
          · exact absurd c42 (by omega)
          · refine wp_lload dX11_drawn_45 rfl ?_
            refine wp_ldc2 (v := 6364136223846793005) dX11_drawn_47 klX11_391 ?_
            refine wp_lmul dX11_drawn_50 ?_
            refine wp_ldc2 (v := 1442695040888963407) dX11_drawn_51 klX11_393 ?_
            refine wp_ladd dX11_drawn_54 ?_
            rw [show xk x k * 6364136223846793005 + 1442695040888963407 = xk x (k + 1) from rfl]
            refine wp_lstore dX11_drawn_55 (by decide) ?_
            refine wp_aload_n dX11_drawn_57 rfl ?_
            refine wp_getC dX11_drawn_58 flX11_37 rfl rfl ?_
            refine wp_iload dX11_drawn_61 rfl ?_
            refine wp_lload dX11_drawn_63 rfl ?_
            refine wp_bipush dX11_drawn_65 rfl ?_
            refine wp_lushr dX11_drawn_67 ?_
            refine wp_iload_n dX11_drawn_68 rfl ?_
            refine wp_iconst dX11_drawn_69 ?_
            refine wp_iadd dX11_drawn_70 ?_
            refine wp_i2l dX11_drawn_71 ?_
            refine wp_lrem dX11_drawn_72 (fun q => by rw [i2l_I (by unfold InR; omega)] at q; have := (lI_eq (a := m + 1) (b := 0) (by unfold InL; omega) (by unfold InL; omega)).mp q; omega) ?_
            refine wp_l2i dX11_drawn_73 ?_
            rw [drw_v _ (by omega)]
            refine wp_iast (n := 24) dX11_drawn_74 rfl (by omega) (by omega) ?_
            rw [show (((k : Nat) : Int)).toNat = k by omega, drH_s]
            refine wp_iinc dX11_drawn_75 rfl (by decide) ?_
            refine wp_goto 36 dX11_drawn_78 (by decide) ?_
            refine wp_loc [(0, .ref (adr X 47)), (1, .long x), (3, .int (iI m)), (4, .long (xk x (k + 1))), (6, .int (iI ((k + 1 : Nat) : Int)))] ⟨rfl, rfl, rfl, rfl, rfl, trivial⟩ ?_
            exact ih (k + 1) (by omega)
      refine wp_loc [(0, .ref (adr X 47)), (1, .long x), (3, .int (iI m)), (4, .long (xk x 0)), (6, .int (iI ((0 : Nat) : Int)))] ⟨rfl, rfl, rfl, rfl, rfl, trivial⟩ ?_
      have q := Ldr (gP (sG σ)).toNat 0 (by omega)
      rw [drH_0] at q
      exact q
    · refine wp_iconst dX11_drawn_24 ?_
      exact wp_iret dX11_drawn_25 rfl (⟨vi (by unfold rDrawn; rw [if_neg (by omega)]), by unfold nDrawn; rw [if_neg (by omega)]; exact am, k0.C⟩)

theorem AM.setR {h h' : Hp} {σ : Sg} {r : List (Int × Int)} (a : AM h σ) (hk : ∀ c j, ¬ (SMx c j ∨ c = 63 ∨ c = 64 ∨ (c = 47 ∧ j = 42)) → hI h' c j = hI h c j) (hr : h'.2.2 = h.2.2) (h1 : hI h' 47 42 = r.length) (h2 : ∀ (i : Nat) (q : Int × Int), r[i]? = some q → hI h' 63 i = q.1 ∧ hI h' 64 i = q.2) : AM h' (σ.1, σ.2.1, σ.2.2.1, σ.2.2.2.1, r, σ.2.2.2.2.2) := by
  obtain ⟨⟨t1, t2⟩, ⟨w1, w2⟩, d1, r1, ⟨g1, g2, g3, g4, g5, g6⟩, ⟨k1, k2⟩, ⟨c1, c2⟩, ⟨i1, i2⟩⟩ := a
  refine ⟨⟨?_, fun i hi => ?_⟩, ⟨?_, fun w t ht => ?_⟩, ?_, ?_, ⟨?_, ?_, ?_, ?_, ?_, fun s hs => ?_⟩, ⟨h1, h2⟩, ⟨?_, fun k l hl => ?_⟩, ⟨?_, fun l hl => ?_⟩⟩
  · rw [hk 47 6 (by unfold SMx; omega)]; exact t1
  · rw [hk 48 i (by unfold SMx; omega)]; exact t2 i hi
  · rw [hk 47 7 (by unfold SMx; omega)]; exact w1
  · obtain ⟨q1, q2⟩ := w2 w t ht
    exact ⟨by rw [hk 50 _ (by unfold SMx; omega)]; exact q1, fun i hi => by rw [hk 49 _ (by unfold SMx; omega)]; exact q2 i hi⟩
  · rw [hk 47 31 (by unfold SMx; omega)]; exact d1
  · unfold hR; rw [hr]; exact r1
  · rw [hk 47 24 (by unfold SMx; omega)]; exact g1
  · rw [hk 47 26 (by unfold SMx; omega)]; exact g2
  · rw [hk 47 27 (by unfold SMx; omega)]; exact g3
  · rw [hM_eq (h := h) (hk 47 24 (by unfold SMx; omega)) (fun i => hk 52 i (by unfold SMx; omega))]; exact g4
  · rw [sM_eq (h := h) (fun i => hk 54 i (by unfold SMx; omega))]; exact g5
  · rw [hk 56 _ (by unfold SMx; omega), hk 56 _ (by unfold SMx; omega)]; exact g6 s hs
  · rw [hk 47 48 (by unfold SMx; omega)]; exact c1
  · have q := c2 k l hl
    exact ⟨fun i hi => by rw [hk 67 _ (by unfold SMx; omega)]; exact q.1 i hi, fun i hi => by rw [hk 67 _ (by unfold SMx; omega)]; exact q.2 i hi⟩
  · rw [hk 47 51 (by unfold SMx; omega)]; exact i1
  · have q := i2 l hl
    exact ⟨fun i hi => by rw [hk 68 _ (by unfold SMx; omega)]; exact q.1 i hi, fun i hi => by rw [hk 69 _ (by unfold SMx; omega)]; exact q.2 i hi⟩
theorem AM.setD {h : Hp} {σ : Sg} {w : Int} (a : AM h σ) : AM (sI h 47 31 w) (σ.1, σ.2.1, w, σ.2.2.2) := by
  have hk : ∀ c j, ¬ (c = 47 ∧ j = 31) → hI (sI h 47 31 w) c j = hI h c j := fun c j q => by rw [hI_sI, if_neg q]
  obtain ⟨⟨t1, t2⟩, ⟨w1, w2⟩, d1, r1, ⟨g1, g2, g3, g4, g5, g6⟩, ⟨k1, k2⟩, ⟨c1, c2⟩, ⟨i1, i2⟩⟩ := a
  refine ⟨⟨?_, fun i hi => ?_⟩, ⟨?_, fun w t ht => ?_⟩, hI_same, r1, ⟨?_, ?_, ?_, ?_, ?_, fun s hs => ?_⟩, ⟨?_, fun i q hq => ?_⟩, ⟨?_, fun k l hl => ?_⟩, ⟨?_, fun l hl => ?_⟩⟩
  · rw [hk 47 6 (by omega)]; exact t1
  · rw [hk 48 i (by omega)]; exact t2 i hi
  · rw [hk 47 7 (by omega)]; exact w1
  · obtain ⟨q1, q2⟩ := w2 w t ht
    exact ⟨by rw [hk 50 _ (by omega)]; exact q1, fun i hi => by rw [hk 49 _ (by omega)]; exact q2 i hi⟩
  · rw [hk 47 24 (by omega)]; exact g1
  · rw [hk 47 26 (by omega)]; exact g2
  · rw [hk 47 27 (by omega)]; exact g3
  · rw [hM_eq (h := h) (hk 47 24 (by omega)) (fun i => hk 52 i (by omega))]; exact g4
  · rw [sM_eq (h := h) (fun i => hk 54 i (by omega))]; exact g5
  · rw [hk 56 _ (by omega), hk 56 _ (by omega)]; exact g6 s hs
  · rw [hk 47 42 (by omega)]; exact k1
  · rw [hk 63 _ (by omega), hk 64 _ (by omega)]; exact k2 i q hq
  · rw [hk 47 48 (by omega)]; exact c1
  · have q := c2 k l hl
    exact ⟨fun i hi => by rw [hk 67 _ (by omega)]; exact q.1 i hi, fun i hi => by rw [hk 67 _ (by omega)]; exact q.2 i hi⟩
  · rw [hk 47 51 (by omega)]; exact i1
  · have q := i2 l hl
    exact ⟨fun i hi => by rw [hk 68 _ (by omega)]; exact q.1 i hi, fun i hi => by rw [hk 69 _ (by omega)]; exact q.2 i hi⟩

set_option maxRecDepth 20000 in
theorem S_X11_rock {X : Cx} {h : Hp} {σ : Sg} (am : AM h σ) (o : SOK σ) {p s : Int} (hp : InR p) (hs : InR s) : Spec X mX11_rock 60 [.ref (adr X 47), .int (iI p), .int (iI s)] h (fun rv h' => rv = some (.int (iI (rRock σ p s))) ∧ AM h' (nRock σ p s) ∧ sameC h h') := by
  refine spec_wp (Nat.le_of_ble_eq_true rfl) (by decide +kernel) ?_
  refine wp_loc [(0, .ref (adr X 47)), (1, .int (iI p)), (2, .int (iI s))] ⟨rfl, rfl, rfl, trivial⟩ ?_
  refine wp_aload_n dX11_rock_0 rfl ?_
  refine wp_iconst dX11_rock_1 ?_
  refine wp_putI dX11_rock_2 plX11_95 rfl rfl ?_
  have k0 : KM h (sI h 47 0 0) := KM.sI (by unfold SMx; omega)
  have am := am.km k0
  generalize sI h 47 0 0 = h0 at *
  have gk := o.2.2.2.1
  have gb := gk.b
  have gkb := gk.2.1
  have e4 : hI h0 47 24 = gP (sG σ) := am.2.2.2.2.1.1
  have e5 : hI h0 47 26 = gA (sG σ) := am.2.2.2.2.1.2.1
  have e6 : hI h0 47 27 = gK (sG σ) := am.2.2.2.2.1.2.2.1
  have em : GM h0 = gE (sG σ) := am.gm
  have ep : gP (GM h0) = gP (sG σ) := e4
  have r1 := am.2.2.2.2.2.1.1
  have r20 := o.2.2.2.2.1.1
  refine wp_aload_n dX11_rock_5 rfl ?_
  refine wp_iload_n dX11_rock_6 rfl ?_
  refine wp_callVp dX11_rock_7 mlX11_290 mvX11_isTurning (S_X11_isTurning (by omega) (by first | assumption | (unfold InR; omega))) rfl rfl (by decide) (by decide) rfl rfl rfl (Nat.le_of_ble_eq_true rfl) ?_
  refine wp_ifeqb 34 dX11_rock_10 (by decide) (fun c10 => ?_) (fun c10 => ?_)
  · refine wp_iconst dX11_rock_34 ?_
    exact wp_iret dX11_rock_35 rfl (⟨vi (by unfold rRock; rw [if_neg (by omega)]), by unfold nRock; rw [if_neg (by omega)]; exact am, k0.C⟩)
  · refine wp_iload_n dX11_rock_13 rfl ?_
    refine wp_i2lI dX11_rock_14 (by first | assumption | (unfold InR; omega)) ?_
    refine wp_ldc2 (v := -1) dX11_rock_15 klX11_341 ?_
    refine wp_lconst (v := 1) dX11_rock_18 rfl ?_
    refine wp_callSp dX11_rock_19 mlX11_219 msX11_isIn (S_X11_isIn (a := s) (b := (-1)) (c := 1) (by first | (exact InR.L (by assumption)) | (unfold InL; omega)) (by unfold InL; omega) (by unfold InL; omega)) rfl rfl (by decide) (by decide) (Nat.le_of_ble_eq_true rfl) ?_
    refine wp_ifeqb 34 dX11_rock_22 (by decide) (fun c22 => ?_) (fun c22 => ?_)
    · refine wp_iconst dX11_rock_34 ?_
      exact wp_iret dX11_rock_35 rfl (⟨vi (by unfold rRock; rw [if_neg (by omega)]), by unfold nRock; rw [if_neg (by omega)]; exact am, k0.C⟩)
    · refine wp_aload_n dX11_rock_25 rfl ?_
      refine wp_getI dX11_rock_26 flX11_281 rfl rfl ?_
      rw [r1]
      refine wp_bipush dX11_rock_29 rfl ?_
      refine wp_icmpne 36 dX11_rock_31 (by decide) (by first | assumption | (unfold InR; omega)) (by first | assumption | (unfold InR; omega)) (fun c31 => ?_) (fun c31 => ?_)
      · refine wp_aload_n dX11_rock_36 rfl ?_
        refine wp_getC dX11_rock_37 flX11_74 rfl rfl ?_
        refine wp_aload_n dX11_rock_40 rfl ?_
        refine wp_getI dX11_rock_41 flX11_281 rfl rfl ?_
        rw [r1]
        refine wp_iload_n dX11_rock_44 rfl ?_
        refine wp_iast (n := 20) dX11_rock_45 rfl (by omega) (by omega) ?_
        refine wp_aload_n dX11_rock_46 rfl ?_
        refine wp_getC dX11_rock_47 flX11_77 rfl rfl ?_
        refine wp_aload_n dX11_rock_50 rfl ?_
        refine wp_getI dX11_rock_51 flX11_281 rfl rfl ?_
        rw [hI_sI, if_neg (by omega), r1]
        refine wp_iload_n dX11_rock_54 rfl ?_
        refine wp_iast (n := 20) dX11_rock_55 rfl (by omega) (by omega) ?_
        refine wp_aload_n dX11_rock_56 rfl ?_
        refine wp_dup dX11_rock_57 rfl ?_
        refine wp_getI dX11_rock_58 flX11_281 rfl rfl ?_
        rw [hI_sI, if_neg (by omega), hI_sI, if_neg (by omega), r1]
        refine wp_iconst dX11_rock_61 ?_
        refine wp_iadd dX11_rock_62 ?_
        refine wp_putI dX11_rock_63 plX11_281 rfl rfl ?_
        refine wp_aload_n dX11_rock_66 rfl ?_
        refine wp_getI dX11_rock_67 flX11_281 rfl rfl ?_
        rw [hI_same]
        exact wp_iret dX11_rock_70 rfl (by
  refine ⟨vi (by unfold rRock; rw [if_pos (by omega)]), ?_, sameC_tr k0.C (fun c hc => ⟨by funext j; show hI _ c j = hI h0 c j; rw [hI_sI, if_neg (by omega), hI_sI, if_neg (by omega), hI_sI, if_neg (by omega)], rfl, rfl⟩)⟩
  unfold nRock
  rw [if_pos (by omega)]
  refine AM.setR am (fun c j q => by rw [hI_sI, if_neg (by omega), hI_sI, if_neg (by omega), hI_sI, if_neg (by omega)]) rfl (by rw [hI_same, List.length_append, List.length_singleton]; omega) (fun i q hq => ?_)
  have hi : i < (sR_ σ ++ [(p, s)]).length := (List.getElem?_eq_some_iff.mp hq).1
  rw [List.length_append, List.length_singleton] at hi
  by_cases e : i = (sR_ σ).length
  · subst e
    rw [List.getElem?_append_right (Nat.le_refl _), Nat.sub_self] at hq
    cases (Option.some.inj hq)
    refine ⟨?_, ?_⟩
    · rw [hI_sI, if_neg (by omega), hI_sI, if_neg (by omega), hI_sI, if_pos ⟨rfl, by omega⟩]
    · rw [hI_sI, if_neg (by omega), hI_sI, if_pos ⟨rfl, by omega⟩]
  · rw [List.getElem?_append_left (by omega)] at hq
    have q9 := am.2.2.2.2.2.1.2 i q hq
    refine ⟨?_, ?_⟩
    · rw [hI_sI, if_neg (by omega), hI_sI, if_neg (by omega), hI_sI, if_neg (by omega)]; exact q9.1
    · rw [hI_sI, if_neg (by omega), hI_sI, if_neg (by omega), hI_sI, if_neg (by omega)]; exact q9.2)
      · refine wp_iconst dX11_rock_34 ?_
        exact wp_iret dX11_rock_35 rfl (⟨vi (by unfold rRock; rw [if_neg (by omega)]), by unfold nRock; rw [if_neg (by omega)]; exact am, k0.C⟩)

set_option maxRecDepth 20000 in
theorem S_X11_wish {X : Cx} {h : Hp} {σ : Sg} (am : AM h σ) (o : SOK σ) {w : Int} (hw : InR w) : Spec X mX11_wish 60 [.ref (adr X 47), .int (iI w)] h (fun rv h' => rv = some (.int (iI (rWish σ w))) ∧ AM h' (nWish σ w) ∧ sameC h h') := by
  refine spec_wp (Nat.le_of_ble_eq_true rfl) (by decide +kernel) ?_
  refine wp_loc [(0, .ref (adr X 47)), (1, .int (iI w))] ⟨rfl, rfl, trivial⟩ ?_
  refine wp_aload_n dX11_wish_0 rfl ?_
  refine wp_iconst dX11_wish_1 ?_
  refine wp_putI dX11_wish_2 plX11_95 rfl rfl ?_
  have k0 : KM h (sI h 47 0 0) := KM.sI (by unfold SMx; omega)
  have am := am.km k0
  generalize sI h 47 0 0 = h0 at *
  have gk := o.2.2.2.1
  have gb := gk.b
  have gkb := gk.2.1
  have e4 : hI h0 47 24 = gP (sG σ) := am.2.2.2.2.1.1
  have e5 : hI h0 47 26 = gA (sG σ) := am.2.2.2.2.1.2.1
  have e6 : hI h0 47 27 = gK (sG σ) := am.2.2.2.2.1.2.2.1
  have em : GM h0 = gE (sG σ) := am.gm
  have ep : gP (GM h0) = gP (sG σ) := e4
  have w1 := am.2.1.1
  have w4 := o.2.1.1
  refine wp_aload_n dX11_wish_5 rfl ?_
  refine wp_getI dX11_wish_6 flX11_272 rfl rfl ?_
  refine wp_ifeq 33 dX11_wish_9 (by decide) (by first | assumption | (unfold InR; omega)) (fun c9 => ?_) (fun c9 => ?_)
  · refine wp_iconst dX11_wish_33 ?_
    exact wp_zret dX11_wish_34 rfl (by omega) (⟨vb0 (by omega), by unfold nWish; rw [if_neg (by omega)]; exact am, k0.C⟩)
  · refine wp_iload_n dX11_wish_12 rfl ?_
    refine wp_iconst dX11_wish_13 ?_
    refine wp_icmpeq 35 dX11_wish_14 (by decide) (by first | assumption | (unfold InR; omega)) (by first | assumption | (unfold InR; omega)) (fun c14 => ?_) (fun c14 => ?_)
    · refine wp_aload_n dX11_wish_35 rfl ?_
      refine wp_iload_n dX11_wish_36 rfl ?_
      refine wp_putI dX11_wish_37 plX11_55 rfl rfl ?_
      refine wp_iconst dX11_wish_40 ?_
      exact wp_zret dX11_wish_41 rfl (by omega) (⟨vb1 (by omega), by unfold nWish; rw [if_pos (by omega)]; exact am.setD, sameC_tr k0.C (fun c hc => ⟨by funext j; show hI _ c j = hI h0 c j; rw [hI_sI, if_neg (by omega)], rfl, rfl⟩)⟩)
    · refine wp_iload_n dX11_wish_17 rfl ?_
      refine wp_i2lI dX11_wish_18 (by first | assumption | (unfold InR; omega)) ?_
      refine wp_lconst (v := 0) dX11_wish_19 rfl ?_
      refine wp_aload_n dX11_wish_20 rfl ?_
      refine wp_getI dX11_wish_21 flX11_267 rfl rfl ?_
      rw [w1]
      refine wp_iconst dX11_wish_24 ?_
      refine wp_isub dX11_wish_25 ?_
      refine wp_i2lI dX11_wish_26 (by first | assumption | (unfold InR; omega)) ?_
      refine wp_callSp dX11_wish_27 mlX11_219 msX11_isIn (S_X11_isIn (a := w) (b := 0) (c := (((sW σ).length : Int) - 1)) (by first | (exact InR.L (by assumption)) | (unfold InL; omega)) (by unfold InL; omega) (by unfold InL; omega)) rfl rfl (by decide) (by decide) (Nat.le_of_ble_eq_true rfl) ?_
      refine wp_ifneb 35 dX11_wish_30 (by decide) (fun c30 => ?_) (fun c30 => ?_)
      · refine wp_aload_n dX11_wish_35 rfl ?_
        refine wp_iload_n dX11_wish_36 rfl ?_
        refine wp_putI dX11_wish_37 plX11_55 rfl rfl ?_
        refine wp_iconst dX11_wish_40 ?_
        exact wp_zret dX11_wish_41 rfl (by omega) (⟨vb1 (by omega), by unfold nWish; rw [if_pos (by omega)]; exact am.setD, sameC_tr k0.C (fun c hc => ⟨by funext j; show hI _ c j = hI h0 c j; rw [hI_sI, if_neg (by omega)], rfl, rfl⟩)⟩)
      · refine wp_iconst dX11_wish_33 ?_
        exact wp_zret dX11_wish_34 rfl (by omega) (⟨vb0 (by omega), by unfold nWish; rw [if_neg (by omega)]; exact am, k0.C⟩)

