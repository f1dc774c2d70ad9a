/-! the reference: the GARDEN is read -/
theorem lk_end {t : List Int} (k : TOK t) {i : Nat} (h : i ≤ t.length) (hl : lk t i = -1) : sk t i = t.length := by
  have h1 := sk_b t h
  by_cases q : sk t i < t.length
  · have h2 := bt_b k q
    unfold lk at hl
    omega
  · omega
theorem Kp.kmG {h h' : Hp} (k : Kp SGa h h') : KM h h' := KM.kp k (fun c j q => by unfold SGa at q; unfold SMx; omega)
theorem gE_l {t : List Int} {k : Nat} {q : GS} (h : ¬ lk t k = -1) : gEnd t (.inr (k, q)) = .inl (sk t k) := if_pos h
theorem gE_n {t : List Int} {k : Nat} {q : GS} (h : lk t k = -1) (h2 : q.1.length = 0 ∨ (q.1.length : Int) / 2 ≤ gIt q 0) : gEnd t (.inr (k, q)) = .inl t.length := by
  show (if lk t k ≠ -1 then Sum.inl (sk t k) else if q.1 = [] ∨ (q.1.length : Int) / 2 ≤ gIt q 0 then Sum.inl t.length else Sum.inr (gOf q)) = _
  rw [if_neg (fun z => z h), if_pos (h2.imp (fun z => List.length_eq_zero_iff.mp z) id)]
theorem gE_y {t : List Int} {k : Nat} {q : GS} (h : lk t k = -1) (h2 : 0 < q.1.length) (h3 : ¬ (q.1.length : Int) / 2 ≤ gIt q 0) : gEnd t (.inr (k, q)) = .inr (gOf q) := by
  show (if lk t k ≠ -1 then Sum.inl (sk t k) else if q.1 = [] ∨ (q.1.length : Int) / 2 ≤ gIt q 0 then Sum.inl t.length else Sum.inr (gOf q)) = _
  rw [if_neg (fun z => z h), if_neg]
  rintro (z | z)
  · rw [z] at h2; exact Nat.lt_irrefl 0 h2
  · exact h3 z
theorem gc_P {t : List Int} (k : TOK t) {q : GS} (hq : GSOK q) {i : Nat} (hi : i ≤ t.length) : (∀ e, gcF t q i = .inl e → e ≤ t.length) ∧ ∀ e q2, gcF t q i = .inr (e, q2) → i < e ∧ e ≤ t.length ∧ GSOK q2 := by
  have p := gcF_b k hq hi
  exact ⟨fun e h => by rw [h] at p; exact p, fun e q2 h => by rw [h] at p; exact p⟩

set_option maxRecDepth 20000 in
theorem S_X11_readGarden {X : Cx} {h : Hp} {t : List Int} (tk : TOK t) (hlen : hI h 47 6 = t.length) (hbt : ∀ j : Nat, j < t.length → hI h 48 j = sbt (t.getD j 0)) : Spec X mX11_readGarden 7 [.ref (adr X 47)] h (fun rv h' => rv = none ∧ hI h' 47 11 = rdV (gRd t) ∧ (∀ G, gRd t = .inr G → ∃ q, G = gOf q ∧ GSOK q ∧ DM h' q) ∧ KM h h') := by
  have t160 := tk.1
  obtain ⟨W, hW⟩ : ∃ W, W = gsF t 161 ([], none, []) 0 := ⟨_, rfl⟩
  obtain ⟨R, hRg⟩ : ∃ R, R = gRd t := ⟨_, rfl⟩
  rw [← hRg]
  rw [gRd_eq, ← hW] at hRg
  refine spec_wp (Nat.le_of_ble_eq_true rfl) (by decide +kernel) ?_
  refine wp_loc [(0, .ref (adr X 47))] ⟨rfl, trivial⟩ ?_
  have Lp : ∀ (n : Nat) (q : GS) (i : Nat) (h1 : Hp), t.length < n + i → i ≤ t.length → TXm h1 t 48 0 → hI h1 47 10 = (i : Int) → hI h1 47 11 = -1 → DM h1 q → GSOK q → KM h h1 → W = gsF t n q i → WP X mX11_readGarden 7 63 [(0, .ref (adr X 47)), (1, .int (iI 1))] [] h1 (fun rv h' => rv = none ∧ hI h' 47 11 = rdV R ∧ (∀ G, R = .inr G → ∃ q, G = gOf q ∧ GSOK q ∧ DM h' q) ∧ KM h h') := by
    intro n
    induction n with
    | zero => intro q i h1 q1 q2; omega
    | succ n ih =>
      intro q i h1 hn hi tx1 hat hf1 dm hq km1 hW
      have gp := gc_P tk hq hi
      refine wp_iload_n dX11_readGarden_63 rfl ?_
      refine wp_ifeq 119 dX11_readGarden_64 (by decide) (by unfold InR; omega) (fun c64 => ?_) (fun c64 => ?_)
      · exact absurd c64 (by decide)
      · refine wp_aload_n dX11_readGarden_67 rfl ?_
        refine wp_getI dX11_readGarden_68 flX11_131 rfl rfl ?_
        rw [hf1]
        refine wp_iconst dX11_readGarden_71 ?_
        refine wp_icmpne 119 dX11_readGarden_72 (by decide) (by unfold InR; omega) (by unfold InR; omega) (fun c72 => ?_) (fun c72 => ?_)
        · exact absurd rfl c72
        · refine wp_aload_n dX11_readGarden_75 rfl ?_
          refine wp_callV dX11_readGarden_76 mlX11_258 mvX11_readClause (S_X11_readClause tx1 tk hat hi hf1 dm hq) rfl rfl (by omega) (by decide) rfl rfl rfl (Nat.le_of_ble_eq_true rfl) ?_
          rintro rv h2 ⟨rfl, he2, hr2, kp2⟩
          have hcs : (∃ e, gcF t q i = .inl e) ∨ ∃ k q2, gcF t q i = .inr (k, q2) := by
            cases gcF t q i with
            | inl e => exact Or.inl ⟨e, rfl⟩
            | inr z => exact Or.inr ⟨z.1, z.2, rfl⟩
          rcases hcs with ⟨e, hw⟩ | ⟨k, q2, hw⟩
          · have he := he2 e hw
            have eb := gp.1 e hw
            have hW : W = .inl e := by rw [hW, gsF, hw]
            rw [hW] at hRg
            have hRg : R = .inl e := hRg
            refine wp_aload_n dX11_readGarden_79 rfl ?_
            refine wp_getI dX11_readGarden_80 flX11_131 rfl rfl ?_
            rw [he]
            refine wp_iconst dX11_readGarden_83 ?_
            refine wp_icmpne 100 dX11_readGarden_84 (by decide) (by unfold InR; omega) (by unfold InR; omega) (fun c84 => ?_) (fun c84 => ?_)
            · refine wp_iconst dX11_readGarden_100 ?_
              refine wp_istore_n dX11_readGarden_101 (by decide) ?_
              refine wp_iload_n dX11_readGarden_102 rfl ?_
              refine wp_ifeq 63 dX11_readGarden_103 (by decide) (by unfold InR; omega) (fun c103 => ?_) (fun c103 => ?_)
              · refine wp_loc [(0, .ref (adr X 47)), (1, .int (iI 0))] ⟨rfl, rfl, trivial⟩ ?_
                refine wp_iload_n dX11_readGarden_63 rfl ?_
                refine wp_ifeq 119 dX11_readGarden_64 (by decide) (by unfold InR; omega) (fun c64 => ?_) (fun c64 => ?_)
                · refine wp_aload_n dX11_readGarden_119 rfl ?_
                  refine wp_getI dX11_readGarden_120 flX11_131 rfl rfl ?_
                  rw [he]
                  refine wp_iconst dX11_readGarden_123 ?_
                  refine wp_icmpne 162 dX11_readGarden_124 (by decide) (by unfold InR; omega) (by unfold InR; omega) (fun c124 => ?_) (fun c124 => ?_)
                  · exact wp_ret dX11_readGarden_162 rfl (⟨rfl, by rw [hRg]; exact he, fun G q9 => (by rw [hRg] at q9; cases q9), km1.tr kp2.kmG⟩)
                  · exact absurd c124 (by omega)
                · exact absurd rfl c64
              · exact absurd rfl c103
            · exact absurd c84 (by omega)
          · obtain ⟨r1, r2, r3⟩ := hr2 k q2 hw
            have gb := gp.2 k q2 hw
            have lb2 := lk_b tk gb.2.1
            have sb2 := sk_b t gb.2.1
            have ev : q2.1.length % 2 = 0 ∧ q2.1.length ≤ 24 := by
              rcases gb.2.2.1 with z | z
              · rw [z]; exact ⟨rfl, by decide⟩
              · omega
            have gi := gIt_b gb.2.2 0 (by decide) (by decide)
            have gi2 : 0 ≤ gIt q2 0 ∧ gIt q2 0 ≤ 11 := by
              have l1 : tLo 0 = 1 := rfl
              have l2 : tHi 0 = 11 := rfl
              omega
            have hW : W = if lk t k = 59 then gsF t n q2 (sk t k + 1) else .inr (k, q2) := by rw [hW, gsF, hw]
            refine wp_aload_n dX11_readGarden_79 rfl ?_
            refine wp_getI dX11_readGarden_80 flX11_131 rfl rfl ?_
            rw [r1]
            refine wp_iconst dX11_readGarden_83 ?_
            refine wp_icmpne 100 dX11_readGarden_84 (by decide) (by unfold InR; omega) (by unfold InR; omega) (fun c84 => ?_) (fun c84 => ?_)
            · exact absurd rfl c84
            · refine wp_aload_n dX11_readGarden_87 rfl ?_
              refine wp_callV dX11_readGarden_88 mlX11_141 mvX11_look (S_X11_look (i := k) (tx1.ga kp2) tk r2 gb.2.1) rfl rfl (by omega) (by decide) rfl rfl rfl (Nat.le_of_ble_eq_true rfl) ?_
              rintro rv h9 ⟨rfl, rfl⟩
              refine wp_bipush dX11_readGarden_91 rfl ?_
              refine wp_icmpne 100 dX11_readGarden_93 (by decide) (by unfold InR; omega) (by unfold InR; omega) (fun c93 => ?_) (fun c93 => ?_)
              · rw [if_neg c93] at hW
                rw [hW] at hRg
                refine wp_iconst dX11_readGarden_100 ?_
                refine wp_istore_n dX11_readGarden_101 (by decide) ?_
                refine wp_iload_n dX11_readGarden_102 rfl ?_
                refine wp_ifeq 63 dX11_readGarden_103 (by decide) (by unfold InR; omega) (fun c103 => ?_) (fun c103 => ?_)
                · refine wp_loc [(0, .ref (adr X 47)), (1, .int (iI 0))] ⟨rfl, rfl, trivial⟩ ?_
                  refine wp_iload_n dX11_readGarden_63 rfl ?_
                  refine wp_ifeq 119 dX11_readGarden_64 (by decide) (by unfold InR; omega) (fun c64 => ?_) (fun c64 => ?_)
                  · refine wp_aload_n dX11_readGarden_119 rfl ?_
                    refine wp_getI dX11_readGarden_120 flX11_131 rfl rfl ?_
                    rw [hI_10 (by decide), r1]
                    refine wp_iconst dX11_readGarden_123 ?_
                    refine wp_icmpne 162 dX11_readGarden_124 (by decide) (by unfold InR; omega) (by unfold InR; omega) (fun c124 => ?_) (fun c124 => ?_)
                    · exact absurd rfl c124
                    · refine wp_aload_n dX11_readGarden_127 rfl ?_
                      refine wp_callV dX11_readGarden_128 mlX11_141 mvX11_look (S_X11_look (i := sk t k) ((tx1.ga kp2).kp kp10) tk hI_same sb2.2) rfl rfl (by omega) (by decide) rfl rfl rfl (Nat.le_of_ble_eq_true rfl) ?_
                      rintro rv h9 ⟨rfl, rfl⟩
                      rw [lk_sk t gb.2.1, sk_sk t gb.2.1, sI_sI]
                      refine wp_iconst dX11_readGarden_131 ?_
                      refine wp_icmpne 157 dX11_readGarden_132 (by decide) (by unfold InR; omega) (by unfold InR; omega) (fun c132 => ?_) (fun c132 => ?_)
                      · refine wp_aload_n dX11_readGarden_157 rfl ?_
                        refine wp_callV dX11_readGarden_158 mlX11_137 mvX11_fails (S_X11_fails (by rw [hI_10 (by decide)]; exact r1)) rfl rfl (by omega) (by decide) rfl rfl rfl (Nat.le_of_ble_eq_true rfl) ?_
                        rintro rv h9 ⟨rfl, rfl⟩
                        rw [hI_same]
                        refine wp_pop dX11_readGarden_161 rfl ?_
                        exact wp_ret dX11_readGarden_162 rfl (by
                    have hRg : R = .inl (sk t k) := hRg.trans (gE_l c132)
                    exact ⟨rfl, by rw [hRg]; exact hI_same, fun G q9 => (by rw [hRg] at q9; cases q9), (km1.tr (kp2.kmG.tr (kp10 (v := ((sk t k : Nat) : Int))).gaP.kmG)).tr kp11.gaP.kmG⟩)
                      · refine wp_aload_n dX11_readGarden_135 rfl ?_
                        refine wp_getI dX11_readGarden_136 flX11_223 rfl rfl ?_
                        rw [hI_10 (by decide), r3.2.2.1]
                        refine wp_ifeqb 157 dX11_readGarden_139 (by decide) (fun c139 => ?_) (fun c139 => ?_)
                        · refine wp_aload_n dX11_readGarden_157 rfl ?_
                          refine wp_callV dX11_readGarden_158 mlX11_137 mvX11_fails (S_X11_fails (by rw [hI_10 (by decide)]; exact r1)) rfl rfl (by omega) (by decide) rfl rfl rfl (Nat.le_of_ble_eq_true rfl) ?_
                          rintro rv h9 ⟨rfl, rfl⟩
                          rw [hI_same]
                          refine wp_pop dX11_readGarden_161 rfl ?_
                          exact wp_ret dX11_readGarden_162 rfl (by
                    have hRg : R = .inl t.length := hRg.trans (gE_n (by omega) (by omega))
                    exact ⟨rfl, by rw [hRg]; exact by rw [hI_same, lk_end tk gb.2.1 (by omega)]; rfl, fun G q9 => (by rw [hRg] at q9; cases q9), (km1.tr (kp2.kmG.tr (kp10 (v := ((sk t k : Nat) : Int))).gaP.kmG)).tr kp11.gaP.kmG⟩)
                        · refine wp_iconst dX11_readGarden_142 ?_
                          refine wp_aload_n dX11_readGarden_143 rfl ?_
                          refine wp_getC dX11_readGarden_144 flX11_46 rfl rfl ?_
                          refine wp_iconst dX11_readGarden_147 ?_
                          refine wp_iald (n := 5) dX11_readGarden_148 rfl (by decide) (by decide) ?_
                          rw [show hI (sI h2 47 10 ((sk t k : Nat) : Int)) 55 (0 : Int).toNat = gIt q2 0 from (r3.kp (kp10 (v := ((sk t k : Nat) : Int)))).2.2.2.2.2.1 0 (by decide)]
                          refine wp_imul dX11_readGarden_149 ?_
                          refine wp_aload_n dX11_readGarden_150 rfl ?_
                          refine wp_getI dX11_readGarden_151 flX11_230 rfl rfl ?_
                          rw [hI_10 (by decide), r3.1]
                          refine wp_icmplt 162 dX11_readGarden_154 (by decide) (by unfold InR; omega) (by unfold InR; omega) (fun c154 => ?_) (fun c154 => ?_)
                          · exact wp_ret dX11_readGarden_162 rfl (by
                    have hRg : R = .inr (gOf q2) := hRg.trans (gE_y (by omega) c139 (by omega))
                    exact ⟨rfl, by rw [hRg, hI_10 (by decide)]; exact r1, fun G q9 => (by rw [hRg] at q9; cases q9; exact ⟨q2, rfl, gb.2.2, (r3.kp (kp10 (v := ((sk t k : Nat) : Int))))⟩), km1.tr (kp2.kmG.tr (kp10 (v := ((sk t k : Nat) : Int))).gaP.kmG)⟩)
                          · refine wp_aload_n dX11_readGarden_157 rfl ?_
                            refine wp_callV dX11_readGarden_158 mlX11_137 mvX11_fails (S_X11_fails (by rw [hI_10 (by decide)]; exact r1)) rfl rfl (by omega) (by decide) rfl rfl rfl (Nat.le_of_ble_eq_true rfl) ?_
                            rintro rv h9 ⟨rfl, rfl⟩
                            rw [hI_same]
                            refine wp_pop dX11_readGarden_161 rfl ?_
                            exact wp_ret dX11_readGarden_162 rfl (by
                    have hRg : R = .inl t.length := hRg.trans (gE_n (by omega) (by omega))
                    exact ⟨rfl, by rw [hRg]; exact by rw [hI_same, lk_end tk gb.2.1 (by omega)]; rfl, fun G q9 => (by rw [hRg] at q9; cases q9), (km1.tr (kp2.kmG.tr (kp10 (v := ((sk t k : Nat) : Int))).gaP.kmG)).tr kp11.gaP.kmG⟩)
                  · exact absurd rfl c64
                · exact absurd rfl c103
              · rw [if_pos c93] at hW
                have lin := lk_in tk gb.2.1 (by omega : lk t k ≠ -1)
                refine wp_iconst dX11_readGarden_96 ?_
                refine wp_goto 101 dX11_readGarden_97 (by decide) ?_
                refine wp_istore_n dX11_readGarden_101 (by decide) ?_
                refine wp_iload_n dX11_readGarden_102 rfl ?_
                refine wp_ifeq 63 dX11_readGarden_103 (by decide) (by unfold InR; omega) (fun c103 => ?_) (fun c103 => ?_)
                · exact absurd c103 (by decide)
                · refine wp_aload_n dX11_readGarden_106 rfl ?_
                  refine wp_dup dX11_readGarden_107 rfl ?_
                  refine wp_getI dX11_readGarden_108 flX11_122 rfl rfl ?_
                  rw [hI_same]
                  refine wp_iconst dX11_readGarden_111 ?_
                  refine wp_iadd dX11_readGarden_112 ?_
                  refine wp_putI dX11_readGarden_113 plX11_122 rfl rfl ?_
                  rw [sI_sI, show ((sk t k : Nat) : Int) + 1 = ((sk t k + 1 : Nat) : Int) by omega]
                  refine wp_goto 63 dX11_readGarden_116 (by decide) ?_
                  refine wp_loc [(0, .ref (adr X 47)), (1, .int (iI 1))] ⟨rfl, rfl, trivial⟩ ?_
                  exact ih q2 (sk t k + 1) (sI h2 47 10 ((sk t k + 1 : Nat) : Int)) (by omega) (by omega) ((tx1.ga kp2).kp kp10) hI_same (by rw [hI_10 (by decide)]; exact r1) (r3.kp kp10) gb.2.2 ((km1.tr kp2.kmG).tr kp10.gaP.kmG) hW
  refine wp_aload_n dX11_readGarden_0 rfl ?_
  refine wp_aload_n dX11_readGarden_1 rfl ?_
  refine wp_getC dX11_readGarden_2 flX11_9 rfl rfl ?_
  refine wp_iconst dX11_readGarden_5 ?_
  refine wp_aload_n dX11_readGarden_6 rfl ?_
  refine wp_getI dX11_readGarden_7 flX11_112 rfl rfl ?_
  rw [hlen]
  refine wp_callV dX11_readGarden_10 mlX11_209 mvX11_opens (S_X11_opens) rfl rfl (by omega) (by decide) rfl rfl rfl (Nat.le_of_ble_eq_true rfl) ?_
  rintro rv h9 ⟨rfl, rfl⟩
  refine wp_aload_n dX11_readGarden_13 rfl ?_
  refine wp_iconst dX11_readGarden_14 ?_
  refine wp_putI dX11_readGarden_15 plX11_230 rfl rfl ?_
  refine wp_aload_n dX11_readGarden_18 rfl ?_
  refine wp_iconst dX11_readGarden_19 ?_
  refine wp_putI dX11_readGarden_20 plX11_244 rfl rfl ?_
  refine wp_aload_n dX11_readGarden_23 rfl ?_
  refine wp_iconst dX11_readGarden_24 ?_
  refine wp_putZ dX11_readGarden_25 plX11_223 rfl rfl (by omega) ?_
  refine wp_aload_n dX11_readGarden_28 rfl ?_
  refine wp_iconst dX11_readGarden_29 ?_
  refine wp_putZ dX11_readGarden_30 plX11_241 rfl rfl (by omega) ?_
  have q5 : hR (sI (sI (sI (sI (opH h 48 0 t.length) 47 25 0) 47 28 0) 47 29 0) 47 30 0) 47 5 = 48 := rfl
  have q8 : hI (sI (sI (sI (sI (opH h 48 0 t.length) 47 25 0) 47 28 0) 47 29 0) 47 30 0) 47 8 = ((0 : Nat) : Int) := rfl
  have q9 : hI (sI (sI (sI (sI (opH h 48 0 t.length) 47 25 0) 47 28 0) 47 29 0) 47 30 0) 47 9 = t.length := rfl
  have q10 : hI (sI (sI (sI (sI (opH h 48 0 t.length) 47 25 0) 47 28 0) 47 29 0) 47 30 0) 47 10 = ((0 : Nat) : Int) := rfl
  have q11 : hI (sI (sI (sI (sI (opH h 48 0 t.length) 47 25 0) 47 28 0) 47 29 0) 47 30 0) 47 11 = -1 := rfl
  have q25 : hI (sI (sI (sI (sI (opH h 48 0 t.length) 47 25 0) 47 28 0) 47 29 0) 47 30 0) 47 25 = 0 := rfl
  have q28 : hI (sI (sI (sI (sI (opH h 48 0 t.length) 47 25 0) 47 28 0) 47 29 0) 47 30 0) 47 28 = 0 := rfl
  have q29 : hI (sI (sI (sI (sI (opH h 48 0 t.length) 47 25 0) 47 28 0) 47 29 0) 47 30 0) 47 29 = 0 := rfl
  have q30 : hI (sI (sI (sI (sI (opH h 48 0 t.length) 47 25 0) 47 28 0) 47 29 0) 47 30 0) 47 30 = 0 := rfl
  have kg : KM h (sI (sI (sI (sI (opH h 48 0 t.length) 47 25 0) 47 28 0) 47 29 0) 47 30 0) := ((((opH_km (Or.inl rfl)).tr (KM.sI (by unfold SMx; omega))).tr (KM.sI (by unfold SMx; omega))).tr (KM.sI (by unfold SMx; omega))).tr (KM.sI (by unfold SMx; omega))
  generalize (sI (sI (sI (sI (opH h 48 0 t.length) 47 25 0) 47 28 0) 47 29 0) 47 30 0) = g at *
  refine wp_iconst dX11_readGarden_33 ?_
  refine wp_istore_n dX11_readGarden_34 (by decide) ?_
  have L35 : ∀ (n : Nat) (v : Int) (h1 : Hp), (v + n = 5 ∧ 0 ≤ v) → (Kp (fun c _ => c = 55) g h1) → (∀ j : Nat, (j : Int) < v → hI h1 55 j = if j = 0 then 1 else 0) → WP X mX11_readGarden 7 35 [(0, .ref (adr X 47)), (1, .int (iI v))] [] h1 (fun rv h' => rv = none ∧ hI h' 47 11 = rdV R ∧ (∀ G, R = .inr G → ∃ q, G = gOf q ∧ GSOK q ∧ DM h' q) ∧ KM h h') := by
    intro n
    induction n with
    | zero =>
      intro v h1 hn k5 f5
      refine wp_iload_n dX11_readGarden_35 rfl ?_
      refine wp_iconst dX11_readGarden_36 ?_
      refine wp_icmpgt 61 dX11_readGarden_37 (by decide) (by unfold InR; omega) (by unfold InR; omega) (fun c37 => ?_) (fun c37 => ?_)
      · refine wp_iconst dX11_readGarden_61 ?_
        refine wp_istore_n dX11_readGarden_62 (by decide) ?_
        refine wp_loc [(0, .ref (adr X 47)), (1, .int (iI 1))] ⟨rfl, rfl, trivial⟩ ?_
        have kf : ∀ j, hI h1 47 j = hI g 47 j := fun j => k5.1 47 j (by omega)
        exact Lp 161 ([], none, []) 0 h1 (by omega) (Nat.zero_le _) ⟨by unfold hR; rw [k5.2]; exact q5, Or.inl ⟨rfl, rfl⟩, by rw [kf]; exact q8, by rw [kf]; exact q9, fun j hj => by rw [k5.1 48 _ (by omega), kg.1 48 _ (by unfold SMx; omega), Nat.zero_add]; exact hbt j hj⟩ (by rw [kf]; exact q10) (by rw [kf]; exact q11) ⟨by rw [kf]; exact q25, by rw [kf]; exact q28, by rw [kf]; exact q29, by rw [kf]; exact q30, fun j hj => (by cases hj), fun j hj => by
          rw [f5 j (by omega)]
          show _ = if (j : Int) = 0 then (1 : Int) else 0
          by_cases z : j = 0
          · rw [if_pos z, if_pos (by omega)]
          · rw [if_neg z, if_neg (by omega)], fun s hs => (by cases hs)⟩ GSOK.g0 (kg.tr (KM.kp k5 (fun c j z => by unfold SMx; omega))) hW
      · exact absurd c37 (by omega)
    | succ n ih =>
      intro v h1 hn k5 f5
      refine wp_iload_n dX11_readGarden_35 rfl ?_
      refine wp_iconst dX11_readGarden_36 ?_
      refine wp_icmpgt 61 dX11_readGarden_37 (by decide) (by unfold InR; omega) (by unfold InR; omega) (fun c37 => ?_) (fun c37 => ?_)
      · exact absurd c37 (by omega)
      · refine wp_aload_n dX11_readGarden_40 rfl ?_
        refine wp_getC dX11_readGarden_41 flX11_46 rfl rfl ?_
        refine wp_iload_n dX11_readGarden_44 rfl ?_
        refine wp_iload_n dX11_readGarden_45 rfl ?_
        refine wp_ifne 53 dX11_readGarden_46 (by decide) (by unfold InR; omega) (fun c46 => ?_) (fun c46 => ?_)
        · refine wp_iconst dX11_readGarden_53 ?_
          refine wp_iast (n := 5) dX11_readGarden_54 rfl (by omega) (by omega) ?_
          refine wp_iinc dX11_readGarden_55 rfl (by decide) ?_
          refine wp_goto 35 dX11_readGarden_58 (by decide) ?_
          refine wp_loc [(0, .ref (adr X 47)), (1, .int (iI (v + 1)))] ⟨rfl, rfl, trivial⟩ ?_
          exact ih (v + 1) _ (by omega) (k5.tr (Kp.sI rfl)) (fun j hj => by
            rw [hI_sI]
            by_cases z : j = v.toNat
            · rw [if_pos ⟨rfl, z⟩, if_neg (by omega)]
            · rw [if_neg (fun w => z w.2)]; exact f5 j (by omega))
        · refine wp_iconst dX11_readGarden_49 ?_
          refine wp_goto 54 dX11_readGarden_50 (by decide) ?_
          refine wp_iast (n := 5) dX11_readGarden_54 rfl (by omega) (by omega) ?_
          refine wp_iinc dX11_readGarden_55 rfl (by decide) ?_
          refine wp_goto 35 dX11_readGarden_58 (by decide) ?_
          refine wp_loc [(0, .ref (adr X 47)), (1, .int (iI (v + 1)))] ⟨rfl, rfl, trivial⟩ ?_
          exact ih (v + 1) _ (by omega) (k5.tr (Kp.sI rfl)) (fun j hj => by
            rw [hI_sI]
            by_cases z : j = v.toNat
            · rw [if_pos ⟨rfl, z⟩, if_pos (by omega)]
            · rw [if_neg (fun w => z w.2)]; exact f5 j (by omega))
  refine wp_loc [(0, .ref (adr X 47)), (1, .int (iI 0))] ⟨rfl, rfl, trivial⟩ ?_
  exact L35 5 0 g (by omega) (Kp.rf g) (fun j hj => by omega)

