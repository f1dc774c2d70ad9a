/-! the reference: a WISH gone through; best -/
def opH (h : Hp) (b : Nat) (B L : Int) : Hp := sI (sI (sI (sI (sR h 47 5 b) 47 8 B) 47 9 L) 47 10 0) 47 11 (-1)
def qs (t : List Int) : Nat → Nat → List (Vl × Vl) → Nat ⊕ List (Vl × Vl)
  | 0, i, _ => .inl i
  | n + 1, i, l => match qC t i with
    | .inl e => .inl e
    | .inr (k, b, v) => if lk t k = 59 then qs t n (sk t k + 1) (l ++ [(b, v)]) else if lk t k = -1 then .inr (l ++ [(b, v)]) else .inl (sk t k)
def fgt (r : Nat ⊕ (Nat × List Int × List (Vl × Vl))) : Nat ⊕ List (Vl × Vl) := match r with
  | .inl e => .inl e
  | .inr (_, _, l) => .inr l
theorem pcs_q (t : List Int) : ∀ (n i : Nat) (c : List Int) (l : List (Vl × Vl)), fgt (pcs t n i c l) = qs t n i l
  | 0, i, c, l => rfl
  | n + 1, i, c, l => by
    rw [pcs, qs, ← pq_l t c.length i]
    cases pcl t c.length i with
    | inl e => rfl
    | inr z =>
      obtain ⟨k, c1, b, v⟩ := z
      show fgt (if lk t k = 59 then pcs t n (sk t k + 1) (c ++ c1) (l ++ [(b, v)]) else if lk t k = -1 then .inr (sk t k, c ++ c1, l ++ [(b, v)]) else .inl (sk t k)) = if lk t k = 59 then qs t n (sk t k + 1) (l ++ [(b, v)]) else if lk t k = -1 then .inr (l ++ [(b, v)]) else .inl (sk t k)
      by_cases a : lk t k = 59
      · rw [if_pos a, if_pos a, pcs_q t n]
      · rw [if_neg a, if_neg a]
        by_cases a2 : lk t k = -1
        · rw [if_pos a2, if_pos a2]; rfl
        · rw [if_neg a2, if_neg a2]; rfl
theorem qC_r {t : List Int} (k : TOK t) {i : Nat} (hi : i ≤ t.length) {q : Nat} {b v : Vl} (h : qC t i = .inr (q, b, v)) : i < q ∧ q ≤ t.length := by
  have pp := pcl_pp k (z := 0) hi
  rw [← pq_l t 0 i] at h
  cases e : pcl t 0 i with
  | inl x => rw [e] at h; cases h
  | inr z => obtain ⟨k2, c, b2, v2⟩ := z; have w := pp.r e; rw [e] at h; cases h; exact ⟨w.1, w.2.1⟩
theorem qC_l {t : List Int} (k : TOK t) {i : Nat} (hi : i ≤ t.length) {e : Nat} (h : qC t i = .inl e) : e ≤ t.length := by
  have pp := pcl_pp k (z := 0) hi
  rw [← pq_l t 0 i] at h
  cases e2 : pcl t 0 i with
  | inl x => rw [e2] at h pp; cases h; exact pp
  | inr z => obtain ⟨k2, c, b2, v2⟩ := z; rw [e2] at h; cases h
def FN (ρ : Int → Int) (h : Hp) (l : List (Vl × Vl)) : Prop := (hI h 47 17 = 0 ∨ hI h 47 17 = 1) ∧ (hI h 47 17 = 0 → hI h 47 14 = 0) ∧ ∀ r, wrF ρ (l ++ r) = if hI h 47 17 = 0 then wrF ρ r else hI h 47 14
theorem FN.st {ρ : Int → Int} {h h' : Hp} {l : List (Vl × Vl)} {k : Nat} {b v : Vl} (f : FN ρ h l) (y : hI h 47 17 = 0 → b ρ ≠ 0 → hI h' 47 17 = 1 ∧ hI h' 47 14 = v ρ) (n : hI h 47 17 ≠ 0 ∨ b ρ = 0 → hI h' 47 17 = hI h 47 17 ∧ hI h' 47 14 = hI h 47 14) : FN ρ h' (l ++ [(b, v)]) := by
  have e : ∀ r, wrF ρ (l ++ [(b, v)] ++ r) = if hI h 47 17 = 0 then (if b ρ = 0 then wrF ρ r else v ρ) else hI h 47 14 := fun r => by rw [List.append_assoc]; exact f.2.2 _
  by_cases a1 : hI h 47 17 = 0
  · by_cases a2 : b ρ = 0
    · obtain ⟨n1, n2⟩ := n (Or.inr a2)
      refine ⟨by rw [n1]; exact f.1, fun _ => by rw [n2]; exact f.2.1 a1, fun r => ?_⟩
      rw [e, if_pos a1, if_pos a2, n1, if_pos a1]
    · obtain ⟨n1, n2⟩ := y a1 a2
      refine ⟨by omega, fun q => by omega, fun r => ?_⟩
      rw [e, if_pos a1, if_neg a2, if_neg (by omega), n2]
  · obtain ⟨n1, n2⟩ := n (Or.inl a1)
    refine ⟨by rw [n1]; exact f.1, fun q => absurd (n1.symm.trans q) a1, fun r => ?_⟩
    rw [e, if_neg a1, n1, if_neg a1, n2]
theorem FN.en {ρ : Int → Int} {h : Hp} {l : List (Vl × Vl)} (f : FN ρ h l) : hI h 47 14 = wrF ρ l := by
  have e := f.2.2 []
  rw [List.append_nil] at e
  rw [e]
  by_cases a : hI h 47 17 = 0
  · rw [if_pos a]; exact f.2.1 a
  · rw [if_neg a]
theorem FN.kp {ρ : Int → Int} {h h' : Hp} {l : List (Vl × Vl)} (f : FN ρ h l) (k : Kp SP h h') : FN ρ h' l := by
  have a := k.1 47 17 (by unfold SP; omega)
  have b := k.1 47 14 (by unfold SP; omega)
  unfold FN
  rw [a, b]
  exact f
theorem Kp.km2 {h h' : Hp} (k : Kp SP2 h h') : KM h h' := KM.kp k (fun c j q => by unfold SP2 at q; unfold SMx; omega)
theorem opH_km {h : Hp} {b : Nat} {B L : Int} (hb : b = 48 ∨ b = 49) : KM h (opH h b B L) := by
  have k0 : KM h (sR h 47 5 b) := ⟨fun _ _ _ => rfl, fun _ _ => rfl, fun c j q => by rw [hR_sR, if_neg q], by rw [hR_sR, if_pos ⟨rfl, rfl⟩]; omega⟩
  exact (((k0.tr (KM.sI (by unfold SMx; omega))).tr (KM.sI (by unfold SMx; omega))).tr (KM.sI (by unfold SMx; omega))).tr (KM.sI (by unfold SMx; omega))

set_option maxRecDepth 20000 in
theorem S_X11_opens {X : Cx} {h : Hp} {b : Nat} {B L : Int} : Spec X mX11_opens 0 [.ref (adr X 47), .ref (adr X b), .int (iI B), .int (iI L)] h (fun rv h' => rv = none ∧ h' = opH h b B L) := by
  refine spec_wp (Nat.le_of_ble_eq_true rfl) (by decide +kernel) ?_
  refine wp_loc [(0, .ref (adr X 47)), (1, .ref (adr X b)), (2, .int (iI B)), (3, .int (iI L))] ⟨rfl, rfl, rfl, rfl, trivial⟩ ?_
  refine wp_aload_n dX11_opens_0 rfl ?_
  refine wp_aload_n dX11_opens_1 rfl ?_
  refine wp_putM dX11_opens_2 plX11_23 rfl rfl rfl rfl ?_
  refine wp_aload_n dX11_opens_5 rfl ?_
  refine wp_iload_n dX11_opens_6 rfl ?_
  refine wp_putI dX11_opens_7 plX11_128 rfl rfl ?_
  refine wp_aload_n dX11_opens_10 rfl ?_
  refine wp_iload_n dX11_opens_11 rfl ?_
  refine wp_putI dX11_opens_12 plX11_125 rfl rfl ?_
  refine wp_aload_n dX11_opens_15 rfl ?_
  refine wp_iconst dX11_opens_16 ?_
  refine wp_putI dX11_opens_17 plX11_122 rfl rfl ?_
  refine wp_aload_n dX11_opens_20 rfl ?_
  refine wp_iconst dX11_opens_21 ?_
  refine wp_putI dX11_opens_22 plX11_131 rfl rfl ?_
  exact wp_ret dX11_opens_25 rfl (⟨rfl, rfl⟩)

set_option maxRecDepth 20000 in
theorem S_X11_goThrough0 {X : Cx} {h : Hp} {t : List Int} {b B : Nat} {ρ : Int → Int} (tk : TOK t) (hb : (b = 48 ∧ B = 0) ∨ (b = 49 ∧ B ≤ 480)) (hbt : ∀ j : Nat, j < t.length → hI h b (B + j) = sbt (t.getD j 0)) (hlt : LTm h ρ) : Spec X mX11_goThrough 32 [.ref (adr X 47), .ref (adr X b), .int (iI B), .int (iI t.length)] h (fun rv h' => rv = none ∧ (∀ e, qs t 161 0 [] = .inl e → hI h' 47 11 = (e : Int)) ∧ (∀ L, qs t 161 0 [] = .inr L → hI h' 47 11 = -1 ∧ hI h' 47 14 = wrF ρ L) ∧ KM h h') := by
  have t160 := tk.1
  obtain ⟨W, hW⟩ : ∃ W, W = qs t 161 0 [] := ⟨_, rfl⟩
  rw [← hW]
  refine spec_wp (Nat.le_of_ble_eq_true rfl) (by decide +kernel) ?_
  refine wp_loc [(0, .ref (adr X 47)), (1, .ref (adr X b)), (2, .int (iI B)), (3, .int (iI t.length))] ⟨rfl, rfl, rfl, rfl, trivial⟩ ?_
  have Lp : ∀ (n i : Nat) (l : List (Vl × Vl)) (g h1 : Hp), t.length < n + 1 + i → i ≤ t.length → FN ρ g l → PMc g ρ (qC t i) none h1 → TXm g t b B → LTm g ρ → hI g 47 13 = 121 → KM h g → W = qs t (n + 1) i l → WP X mX11_goThrough 32 32 [(0, .ref (adr X 47))] [] h1 (fun rv h' => rv = none ∧ (∀ e, W = .inl e → hI h' 47 11 = (e : Int)) ∧ (∀ L, W = .inr L → hI h' 47 11 = -1 ∧ hI h' 47 14 = wrF ρ L) ∧ KM h h') := by
    intro n
    induction n using Nat.strongRecOn with
    | ind n ihs =>
      intro i l g h1 hn hi fn p txg ltg hlg kg hW
      have hcs : (∃ e, qC t i = .inl e) ∨ ∃ k b v, qC t i = .inr (k, b, v) := by
        cases qC t i with
        | inl e => exact Or.inl ⟨e, rfl⟩
        | inr z => exact Or.inr ⟨z.1, z.2.1, z.2.2, rfl⟩
      rcases hcs with ⟨e, hw⟩ | ⟨k, b1, v1, hw⟩
      · have he := p.2.1 e hw
        have eb := qC_l tk hi hw
        have hW : W = .inl e := by rw [hW, qs, hw]
        subst hW
        refine wp_aload_n dX11_goThrough_32 rfl ?_
        refine wp_getI dX11_goThrough_33 flX11_131 rfl rfl ?_
        rw [he]
        refine wp_iconst dX11_goThrough_36 ?_
        refine wp_icmpne 66 dX11_goThrough_37 (by decide) (by unfold InR; omega) (by unfold InR; omega) (fun c37 => ?_) (fun c37 => ?_)
        · refine wp_aload_n dX11_goThrough_66 rfl ?_
          refine wp_getI dX11_goThrough_67 flX11_131 rfl rfl ?_
          rw [he]
          refine wp_iconst dX11_goThrough_70 ?_
          refine wp_icmpne 87 dX11_goThrough_71 (by decide) (by unfold InR; omega) (by unfold InR; omega) (fun c71 => ?_) (fun c71 => ?_)
          · exact wp_ret dX11_goThrough_87 rfl (⟨rfl, fun e9 q9 => (by cases q9; exact he), fun L9 q9 => (by cases q9), kg.tr p.2.2.2.km2⟩)
          · exact absurd c71 (by omega)
        · exact absurd c37 (by omega)
      · obtain ⟨r1, r2, r3, r4, r5⟩ := p.2.2.1 k b1 v1 hw
        have eb := qC_r tk hi hw
        have lb1 := lk_b tk eb.2
        have sb1 := sk_b t eb.2
        have fn1 := FN.st (k := k) fn r4 r5
        have hW : W = if lk t k = 59 then qs t n (sk t k + 1) (l ++ [(b1, v1)]) else if lk t k = -1 then .inr (l ++ [(b1, v1)]) else .inl (sk t k) := by rw [hW, qs, hw]
        have ks := kg.tr p.2.2.2.km2
        have k10 : ∀ v, KM h (sI h1 47 10 v) := fun v => ks.tr (KM.sI (by unfold SMx; omega))
        refine wp_aload_n dX11_goThrough_32 rfl ?_
        refine wp_getI dX11_goThrough_33 flX11_131 rfl rfl ?_
        rw [r1]
        refine wp_iconst dX11_goThrough_36 ?_
        refine wp_icmpne 66 dX11_goThrough_37 (by decide) (by unfold InR; omega) (by unfold InR; omega) (fun c37 => ?_) (fun c37 => ?_)
        · exact absurd rfl c37
        · refine wp_aload_n dX11_goThrough_40 rfl ?_
          refine wp_callV dX11_goThrough_41 mlX11_141 mvX11_look (S_X11_look (i := k) (txg.kp2 p.2.2.2) tk r2 eb.2) rfl rfl (by omega) (by decide) rfl rfl rfl (Nat.le_of_ble_eq_true rfl) ?_
          rintro rv h9 ⟨rfl, rfl⟩
          refine wp_bipush dX11_goThrough_44 rfl ?_
          refine wp_icmpne 66 dX11_goThrough_46 (by decide) (by unfold InR; omega) (by unfold InR; omega) (fun c46 => ?_) (fun c46 => ?_)
          · rw [if_neg c46] at hW
            refine wp_aload_n dX11_goThrough_66 rfl ?_
            refine wp_getI dX11_goThrough_67 flX11_131 rfl rfl ?_
            rw [hI_10 (by decide), r1]
            refine wp_iconst dX11_goThrough_70 ?_
            refine wp_icmpne 87 dX11_goThrough_71 (by decide) (by unfold InR; omega) (by unfold InR; omega) (fun c71 => ?_) (fun c71 => ?_)
            · exact absurd rfl c71
            · refine wp_aload_n dX11_goThrough_74 rfl ?_
              refine wp_callV dX11_goThrough_75 mlX11_141 mvX11_look (S_X11_look (i := sk t k) ((txg.kp2 p.2.2.2).kp kp10) tk hI_same sb1.2) rfl rfl (by omega) (by decide) rfl rfl rfl (Nat.le_of_ble_eq_true rfl) ?_
              rintro rv h9 ⟨rfl, rfl⟩
              rw [lk_sk t eb.2, sk_sk t eb.2, sI_sI]
              refine wp_iconst dX11_goThrough_78 ?_
              refine wp_icmpeq 87 dX11_goThrough_79 (by decide) (by unfold InR; omega) (by unfold InR; omega) (fun c79 => ?_) (fun c79 => ?_)
              · exact wp_ret dX11_goThrough_87 rfl (by
          rw [if_pos c79] at hW
          subst hW
          exact ⟨rfl, fun e9 q9 => (by cases q9), fun L9 q9 => (by cases q9; exact ⟨by rw [hI_10 (by decide)]; exact r1, by rw [hI_10 (by decide)]; exact fn1.en⟩), k10 _⟩)
              · refine wp_aload_n dX11_goThrough_82 rfl ?_
                refine wp_callV dX11_goThrough_83 mlX11_137 mvX11_fails (S_X11_fails (by rw [hI_10 (by decide)]; exact r1)) rfl rfl (by omega) (by decide) rfl rfl rfl (Nat.le_of_ble_eq_true rfl) ?_
                rintro rv h9 ⟨rfl, rfl⟩
                rw [hI_same]
                refine wp_pop dX11_goThrough_86 rfl ?_
                exact wp_ret dX11_goThrough_87 rfl (by
          rw [if_neg c79] at hW
          subst hW
          exact ⟨rfl, fun e9 q9 => (by cases q9; exact hI_same), fun L9 q9 => (by cases q9), (k10 _).tr (KM.sI (by unfold SMx; omega))⟩)
          · rw [if_pos c46] at hW
            have lin := lk_in tk eb.2 (by omega : lk t k ≠ -1)
            refine wp_aload_n dX11_goThrough_49 rfl ?_
            refine wp_dup dX11_goThrough_50 rfl ?_
            refine wp_getI dX11_goThrough_51 flX11_122 rfl rfl ?_
            rw [hI_same]
            refine wp_iconst dX11_goThrough_54 ?_
            refine wp_iadd dX11_goThrough_55 ?_
            refine wp_putI dX11_goThrough_56 plX11_122 rfl rfl ?_
            rw [sI_sI, show ((sk t k : Nat) : Int) + 1 = ((sk t k + 1 : Nat) : Int) by omega]
            refine wp_aload_n dX11_goThrough_59 rfl ?_
            refine wp_callV dX11_goThrough_60 mlX11_213 mvX11_clause (S_X11_clause ⟨(txg.kp2 p.2.2.2).kp kp10, tk, hI_same, by omega, by rw [hI_10 (by decide)]; exact r1, by rw [hI_10 (by decide), r3]; rfl, (ltg.kp2 p.2.2.2).kp kp10⟩ (by rw [hI_10 (by decide), p.2.2.2.1 47 13 (by unfold SP2; omega)]; exact hlg) (by rw [hI_10 (by decide)]; exact fn1.1)) rfl rfl (by omega) (by decide) rfl rfl rfl (Nat.le_of_ble_eq_true rfl) ?_
            rintro rv h2 p2
            obtain rfl := p2.1
            refine wp_goto 32 dX11_goThrough_63 (by decide) ?_
            refine wp_loc [(0, .ref (adr X 47))] ⟨rfl, trivial⟩ ?_
            exact ihs (n - 1) (by omega) (sk t k + 1) (l ++ [(b1, v1)]) (sI h1 47 10 ((sk t k + 1 : Nat) : Int)) h2 (by omega) (by omega) (fn1.kp kp10) p2 ((txg.kp2 p.2.2.2).kp kp10) ((ltg.kp2 p.2.2.2).kp kp10) (by rw [hI_10 (by decide), p.2.2.2.1 47 13 (by unfold SP2; omega)]; exact hlg) (k10 _) (by rw [hW, show n - 1 + 1 = n by omega])
  refine wp_aload_n dX11_goThrough_0 rfl ?_
  refine wp_aload_n dX11_goThrough_1 rfl ?_
  refine wp_iload_n dX11_goThrough_2 rfl ?_
  refine wp_iload_n dX11_goThrough_3 rfl ?_
  refine wp_callV dX11_goThrough_4 mlX11_209 mvX11_opens (S_X11_opens) rfl rfl (by omega) (by decide) rfl rfl rfl (Nat.le_of_ble_eq_true rfl) ?_
  rintro rv h9 ⟨rfl, rfl⟩
  refine wp_aload_n dX11_goThrough_7 rfl ?_
  refine wp_bipush dX11_goThrough_8 rfl ?_
  refine wp_putI dX11_goThrough_10 plX11_203 rfl rfl ?_
  refine wp_aload_n dX11_goThrough_13 rfl ?_
  refine wp_iconst dX11_goThrough_14 ?_
  refine wp_putI dX11_goThrough_15 plX11_134 rfl rfl ?_
  refine wp_aload_n dX11_goThrough_18 rfl ?_
  refine wp_iconst dX11_goThrough_19 ?_
  refine wp_putZ dX11_goThrough_20 plX11_199 rfl rfl (by omega) ?_
  refine wp_aload_n dX11_goThrough_23 rfl ?_
  refine wp_iconst dX11_goThrough_24 ?_
  refine wp_putI dX11_goThrough_25 plX11_206 rfl rfl ?_
  have hb2 : b = 48 ∨ b = 49 := by omega
  have kg : KM h (sI (sI (sI (sI (opH h b B t.length) 47 13 121) 47 12 0) 47 17 0) 47 14 0) := (((((opH_km hb2).tr (KM.sI (by unfold SMx; omega))).tr (KM.sI (by unfold SMx; omega))).tr (KM.sI (by unfold SMx; omega))).tr (KM.sI (by unfold SMx; omega)))
  have q5 : hR (sI (sI (sI (sI (opH h b B t.length) 47 13 121) 47 12 0) 47 17 0) 47 14 0) 47 5 = b := rfl
  have q8 : hI (sI (sI (sI (sI (opH h b B t.length) 47 13 121) 47 12 0) 47 17 0) 47 14 0) 47 8 = B := rfl
  have q9 : hI (sI (sI (sI (sI (opH h b B t.length) 47 13 121) 47 12 0) 47 17 0) 47 14 0) 47 9 = t.length := rfl
  have q10 : hI (sI (sI (sI (sI (opH h b B t.length) 47 13 121) 47 12 0) 47 17 0) 47 14 0) 47 10 = ((0 : Nat) : Int) := rfl
  have q11 : hI (sI (sI (sI (sI (opH h b B t.length) 47 13 121) 47 12 0) 47 17 0) 47 14 0) 47 11 = -1 := rfl
  have q12 : hI (sI (sI (sI (sI (opH h b B t.length) 47 13 121) 47 12 0) 47 17 0) 47 14 0) 47 12 = 0 := rfl
  have q13 : hI (sI (sI (sI (sI (opH h b B t.length) 47 13 121) 47 12 0) 47 17 0) 47 14 0) 47 13 = 121 := rfl
  have q14 : hI (sI (sI (sI (sI (opH h b B t.length) 47 13 121) 47 12 0) 47 17 0) 47 14 0) 47 14 = 0 := rfl
  have q17 : hI (sI (sI (sI (sI (opH h b B t.length) 47 13 121) 47 12 0) 47 17 0) 47 14 0) 47 17 = 0 := rfl
  have q51 : ∀ j, hI (sI (sI (sI (sI (opH h b B t.length) 47 13 121) 47 12 0) 47 17 0) 47 14 0) 51 j = hI h 51 j := fun j => by
    unfold opH
    simp only [hI_sI, hI_sR, if_neg (show ¬ (51 = 47 ∧ _) from fun q => absurd q.1 (by decide))]
    repeat rw [if_neg (by omega)]
  generalize sI (sI (sI (sI (opH h b B t.length) 47 13 121) 47 12 0) 47 17 0) 47 14 0 = g at *
  have txg : TXm g t b B := ⟨q5, hb, q8, q9, fun j hj => by rw [kg.1 b _ (by unfold SMx; omega)]; exact hbt j hj⟩
  have ltg : LTm g ρ := fun x hx => by rw [q51]; exact hlt x hx
  have fng : FN ρ g [] := ⟨Or.inl q17, fun _ => q14, fun r => by rw [q17, if_pos rfl]; rfl⟩
  have hp1 : PLm g t b B 0 (6 - ((6 : Nat) : Int)) ρ := ⟨txg, tk, q10, Nat.zero_le _, q11, q12, ltg⟩
  refine wp_aload_n dX11_goThrough_28 rfl ?_
  refine wp_callV dX11_goThrough_29 mlX11_213 mvX11_clause (S_X11_clause hp1 q13 (Or.inl q17)) rfl rfl (by omega) (by decide) rfl rfl rfl (Nat.le_of_ble_eq_true rfl) ?_
  rintro rv h2 p2
  obtain rfl := p2.1
  refine wp_loc [(0, .ref (adr X 47))] ⟨rfl, trivial⟩ ?_
  exact Lp 160 0 [] g h2 (by omega) (Nat.zero_le _) fng p2 txg ltg q13 kg hW

theorem S_X11_goThrough {X : Cx} {h : Hp} {t : List Int} {b B : Nat} {ρ : Int → Int} (tk : TOK t) (hb : (b = 48 ∧ B = 0) ∨ (b = 49 ∧ B ≤ 480)) (hbt : ∀ j : Nat, j < t.length → hI h b (B + j) = sbt (t.getD j 0)) (hlt : LTm h ρ) : Spec X mX11_goThrough 32 [.ref (adr X 47), .ref (adr X b), .int (iI B), .int (iI t.length)] h (fun rv h' => rv = none ∧ hI h' 47 11 = wdV (wRd t) ∧ (∀ q, wRd t = .inr q → hI h' 47 14 = wrF ρ (wCl t)) ∧ KM h h') := by
  refine spec_mono (S_X11_goThrough0 tk hb hbt hlt) ?_
  rintro rv h' ⟨rfl, h1, h2, h3⟩
  have e := pcs_q t 161 0 [] []
  have ew : wRdV t = pcs t 161 0 [] [] := rfl
  refine ⟨rfl, ?_, ?_, h3⟩
  · unfold wRd
    rw [ew]
    cases q : pcs t 161 0 [] [] with
    | inl x => rw [q] at e; exact h1 x e.symm
    | inr z => rw [q] at e; exact (h2 _ e.symm).1
  · intro w hw
    unfold wRd at hw
    rw [ew] at hw
    unfold wCl
    rw [ew]
    cases q : pcs t 161 0 [] [] with
    | inl x => rw [q] at hw; cases hw
    | inr z => rw [q] at e; exact (h2 _ e.symm).2
theorem LTm.any (h : Hp) : LTm h (fun x => (iI (hI h 51 x.toNat)).toInt) := fun x _ => ⟨(iI_of _).symm, inR_of _⟩

