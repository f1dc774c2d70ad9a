/-! the WISH is read: CLAUSE, the whole -/
theorem lpF_end {t : List Int} (k : TOK t) {J : Int → Bool} (hJ : J (-1) = false) {A : Option Vl → Nat → PR} (hA : ∀ f i, i ≤ t.length → PP t i 0 (A f i)) : ∀ (n : Nat) (f : Option Vl) (m : Int) (w : Vl) (i : Nat), i ≤ t.length → ∀ q c v, lpF t J A n f m w i = .inr (q, c, v) → sk t q = q
  | 0, f, m, w, i, hi, q, c, v, h => by cases h
  | n + 1, f, m, w, i, hi, q, c, v, h => by
    rw [lpF_s] at h
    have h1 := hA f i hi
    cases e : A f i with
    | inl x => rw [e] at h; cases h
    | inr z =>
      obtain ⟨j, c2, v2⟩ := z
      have h2 := h1.r e
      rw [e, prB_inr] at h
      by_cases hj : J (lk t j) = true
      · rw [jK_t hj] at h
        have h4 := lk_in k h2.2.1 (fun q => by rw [q, hJ] at hj; cases hj)
        cases e2 : lpF t J A n none (lk t j) (sv m w v2) (sk t j + 1) with
        | inl x => rw [e2] at h; cases h
        | inr z =>
          obtain ⟨j2, c3, v3⟩ := z
          rw [e2, app_inr] at h
          cases h
          exact lpF_end k hJ hA n none _ _ _ (by omega) _ _ _ e2
      · rw [jK_f hj] at h
        cases h
        exact sk_sk t h2.2.1
theorem smP_end {t : List Int} (k : TOK t) {e i q : Nat} {c : List Int} {v : Vl} (hi : i ≤ t.length) (h : smP t e i = .inr (q, c, v)) : sk t q = q := by
  rw [smP_eq] at h
  exact lpF_end k rfl (fun f i hi => lpF_pp k rfl (fun f i hi => atP_pp k e hi) 161 none 0 v0 i hi) _ _ _ _ _ hi _ _ _ h
theorem CW.set {h : Hp} {A B : List Int} {x : Int} (c : CW h (A ++ x :: B)) (y : Int) : CW (sI h 6 A.length y) (A ++ y :: B) := by
  refine ⟨by rw [hI_sI, if_neg (by omega), c.1]; simp only [List.length_append, List.length_cons], fun i hi => ?_⟩
  have hi2 : i < (A ++ x :: B).length := by simp only [List.length_append, List.length_cons] at hi ⊢; exact hi
  rw [hI_sI]
  by_cases q : i = A.length
  · rw [if_pos ⟨rfl, q⟩, q]; simp
  · rw [if_neg (fun w => q w.2), c.2 i hi2, List.getD_eq_getElem?_getD, List.getD_eq_getElem?_getD]
    by_cases q2 : i < A.length
    · rw [List.getElem?_append_left q2, List.getElem?_append_left q2]
    · obtain ⟨d, hd⟩ : ∃ d, i = A.length + (d + 1) := ⟨i - A.length - 1, by omega⟩
      rw [List.getElem?_append_right (by omega), List.getElem?_append_right (by omega), show i - A.length = d + 1 by omega, List.getElem?_cons_succ, List.getElem?_cons_succ]
def PQ2 (h : Hp) (w : List Int) (V : PC) (rv : Option Value) (h' : Hp) : Prop := rv = some (.int (iI (b2i (V.isRight = true)))) ∧ hI h' 1 2 = psI V ∧ (∀ k c b v, V = .inr (k, c, b, v) → CW h' (w ++ c)) ∧ Kp SW h h'
def pcT2 (t : List Int) (z : Nat) (c0 c : List Int) (b : Vl) (k : Nat) : PC := match smP t 6 k with
    | .inl e => .inl e
    | .inr (k2, c2, v) => .inr (k2, c0 ++ c ++ [-63, ((z + c0.length + c.length + 2 + c2.length + 1 : Nat) : Int)] ++ c2 ++ [-59], b, v)
theorem pcT_l {t : List Int} {z : Nat} {c0 : List Int} {r : PR} {e : Nat} (h : r = .inl e) : pcT t z c0 r = .inl e := by rw [h]; rfl
theorem pcT_x {t : List Int} {z : Nat} {c0 c : List Int} {r : PR} {k : Nat} {b : Vl} (h : r = .inr (k, c, b)) (hn : ¬ lk t k = 63) : pcT t z c0 r = .inl (sk t k) := by
  rw [h]
  unfold pcT
  rw [prB_inr]
  unfold prX
  rw [if_neg hn]
theorem pcT_r {t : List Int} {z : Nat} {c0 c : List Int} {r : PR} {k : Nat} {b : Vl} (h : r = .inr (k, c, b)) (hn : lk t k = 63) : pcT t z c0 r = pcT2 t z c0 c b (sk t k + 1) := by
  rw [h]
  unfold pcT
  rw [prB_inr]
  unfold prX
  rw [if_pos hn]
  rfl
def pcl2 (t : List Int) (z k : Nat) : PC :=
      if lk t k = 33 ∨ lk t k = 40 then pcT t z [] (cdP t 6 none k)
      else match smP t 6 k with
        | .inl e => .inl e
        | .inr (k1, c1, v1) => if lk t k1 = 61 ∨ lk t k1 = 60 ∨ lk t k1 = 62 then pcT t z c1 (cdP t 6 (some v1) k1) else .inr (k1, c1 ++ [-59], fun _ => 1, v1)
theorem pcl_1 {t : List Int} {z i : Nat} (h : ¬ lk t i = 121) : pcl t z i = .inl (sk t i) := by
  unfold pcl prX
  rw [if_neg h]
theorem pcl_2 {t : List Int} {z i : Nat} (h : lk t i = 121) (h2 : ¬ lk t (sk t i + 1) = 58) : pcl t z i = .inl (sk t (sk t i + 1)) := by
  unfold pcl prX
  rw [if_pos h]
  dsimp only
  rw [if_neg h2]
theorem pcl_3 {t : List Int} {z i : Nat} (h : lk t i = 121) (h2 : lk t (sk t i + 1) = 58) : pcl t z i = pcl2 t z (sk t (sk t i + 1) + 1) := by
  unfold pcl prX
  rw [if_pos h]
  dsimp only
  rw [if_pos h2]
  rfl
def PP2 (t : List Int) (i : Nat) (r : PC) : Prop := match r with
  | .inl e => e ≤ t.length
  | .inr (k, c, _) => i < k ∧ k ≤ t.length ∧ c.length ≤ k - i
theorem PP2.r {t : List Int} {i k : Nat} {c : List Int} {b v : Vl} {r : PC} (h : PP2 t i r) (e : r = .inr (k, c, b, v)) : i < k ∧ k ≤ t.length ∧ c.length ≤ k - i := by rw [e] at h; exact h
theorem pcT_pp {t : List Int} (k : TOK t) {z i j : Nat} {c0 : List Int} {f : Option Vl} (hj : j ≤ t.length) (hij : i + 2 ≤ j) (hc : c0.length + i + 2 ≤ j) : PP2 t i (pcT t z c0 (cdP t 6 f j)) := by
  have h1 := cdP_pp k 6 f hj
  cases e : cdP t 6 f j with
  | inl x => rw [pcT_l rfl]; exact h1.l e
  | inr q =>
    obtain ⟨k2, c, b⟩ := q
    have h2 := h1.r e
    have h3 := sk_b t h2.2.1
    by_cases hn : lk t k2 = 63
    · rw [pcT_r rfl hn]
      have h4 := lk_in k h2.2.1 (by omega : lk t k2 ≠ -1)
      have h5 := smP_pp k 6 (sk t k2 + 1) (by omega)
      unfold pcT2
      cases e2 : smP t 6 (sk t k2 + 1) with
      | inl x => exact h5.l e2
      | inr q =>
        obtain ⟨k3, c3, b3⟩ := q
        have h6 := h5.r e2
        exact ⟨by omega, h6.2.1, by simp only [List.length_append, List.length_cons, List.length_nil]; omega⟩
    · rw [pcT_x rfl hn]; exact h3.2
theorem pcl_pp {t : List Int} (k : TOK t) {z i : Nat} (hi : i ≤ t.length) : PP2 t i (pcl t z i) := by
  have h1 := sk_b t hi
  by_cases c1 : lk t i = 121
  · have h2 := lk_in k hi (by omega : lk t i ≠ -1)
    have h3 := sk_b t (i := sk t i + 1) (by omega)
    by_cases c2 : lk t (sk t i + 1) = 58
    · have h4 := lk_in k (i := sk t i + 1) (by omega) (by omega)
      rw [pcl_3 c1 c2]
      unfold pcl2
      have hk : sk t (sk t i + 1) + 1 ≤ t.length := by omega
      have hk2 : i + 2 ≤ sk t (sk t i + 1) + 1 := by omega
      generalize sk t (sk t i + 1) + 1 = k0 at *
      by_cases c3 : lk t k0 = 33 ∨ lk t k0 = 40
      · rw [if_pos c3]; exact pcT_pp k hk hk2 (by rw [List.length_nil]; omega)
      · rw [if_neg c3]
        have h5 := smP_pp k 6 k0 hk
        cases e2 : smP t 6 k0 with
        | inl x => exact h5.l e2
        | inr q =>
          obtain ⟨k3, c5, b3⟩ := q
          have h6 := h5.r e2
          dsimp only
          by_cases c4 : lk t k3 = 61 ∨ lk t k3 = 60 ∨ lk t k3 = 62
          · rw [if_pos c4]; exact pcT_pp k h6.2.1 (by omega) (by omega)
          · rw [if_neg c4]; exact ⟨by omega, h6.2.1, by simp only [List.length_append, List.length_cons, List.length_nil]; omega⟩
    · rw [pcl_2 c1 c2]; exact h3.2
  · rw [pcl_1 c1]; exact h1.2

set_option maxRecDepth 20000 in
theorem S_X9_clause {X : Cx} {h : Hp} {t w : List Int} {i : Nat} (tp : TPh h t) (tk : TOK t) (hi : hI h 1 2 = i) (hl : i ≤ t.length) (cw : CW h w) (hwl : w.length ≤ i) : Spec X mX9_clause 18 [.ref (adr X 5), .ref (adr X 1)] h (PQ2 h w (pcl t w.length i)) := by
  have t160 := tk.1
  have lb := lk_b tk hl
  have sb := sk_b t hl
  have hS6 : ∀ (h : Hp) (t w : List Int) (i : Nat), RP h t w i → Spec X mX9_sum 15 [.ref (adr X 5), .ref (adr X 1), .int (iI 0)] h (PQ h w (smP t 6 i)) := S_X9_sum 6 (by decide)
  have hC6 : ∀ (h : Hp) (t w : List Int) (i : Nat) (f : Option Vl), RP h t w i → Spec X mX9_condition 17 [.ref (adr X 5), .ref (adr X 1), .int (iI 0), .int (iI (b2i (f.isSome = true)))] h (PQ h w (cdP t 6 f i)) := (S_X9_uc 6 (by decide)).2
  obtain ⟨V, hV⟩ : ∃ V, V = pcl t w.length i := ⟨_, rfl⟩
  rw [← hV]
  refine spec_wp (Nat.le_of_ble_eq_true rfl) (by decide +kernel) ?_
  refine wp_loc [(0, .ref (adr X 5)), (1, .ref (adr X 1))] ⟨rfl, rfl, trivial⟩ ?_
  have K76 : ∀ (f : Option Vl) (c0 : List Int) (k : Nat) (h3 : Hp), TPh h3 t → hI h3 1 2 = ((sk t k : Nat) : Int) → k ≤ t.length → CW h3 (w ++ c0) → c0.length + i + 2 ≤ k → Kp SW h h3 → V = pcT t w.length c0 (cdP t 6 f k) → WP X mX9_clause 18 76 [(0, .ref (adr X 5)), (1, .ref (adr X 1)), (3, .int (iI (b2i (f.isSome = true))))] [] h3 (PQ2 h w V) := by
    intro f c0 k h3 tp3 at3 hk cw3 hck kp3 hV
    have sb3 := sk_b t hk
    have hwc : (w ++ c0).length = w.length + c0.length := List.length_append
    refine wp_aload_n dX9_clause_76 rfl ?_
    refine wp_aload_n dX9_clause_77 rfl ?_
    refine wp_iconst dX9_clause_78 ?_
    refine wp_iload_n dX9_clause_79 rfl ?_
    refine wp_callV dX9_clause_80 mlX9_49 mvX9_condition (hC6 h3 t (w ++ c0) (sk t k) f ⟨tp3, tk, at3, by omega, sb3.2, cw3, by omega⟩) rfl rfl (by decide) (by decide) rfl rfl rfl (Nat.le_of_ble_eq_true rfl) ?_
    rw [cdP_sk t 6 f hk]
    rintro rv h4 ⟨rfl, at4, cw4, kp4⟩
    refine wp_ifeqb 95 dX9_clause_83 (by decide) (fun c83 => ?_) (fun c83 => ?_)
    · refine wp_iconst dX9_clause_95 ?_
      exact wp_zret dX9_clause_96 rfl (by omega) (by
    obtain ⟨e2, hk4⟩ := isR_no c83
    rw [pcT_l hk4] at hV
    rw [hk4] at at4
    subst hV
    exact ⟨rfl, at4, fun k9 c9 b9 v9 e9 => (by cases e9), kp3.tr kp4⟩)
    · obtain ⟨k4, z4, hk4⟩ := isR_ok c83
      obtain ⟨c, b⟩ := z4
      have pp4 := (cdP_pp tk 6 f hk).r hk4
      have cw4 := cw4 _ _ _ hk4
      rw [hk4] at at4
      have at4 : hI h4 1 2 = ((k4 : Nat) : Int) := at4
      have sb4 := sk_b t pp4.2.1
      refine wp_aload_n dX9_clause_86 rfl ?_
      refine wp_bipush dX9_clause_87 rfl ?_
      refine wp_callV dX9_clause_89 mlX9_28 mvX7_pass (S_X7_pass (i := k4) (tp3.sw kp4) tk at4 pp4.2.1 (by unfold InR; omega)) rfl rfl (by decide) (by decide) rfl rfl rfl (Nat.le_of_ble_eq_true rfl) ?_
      rintro rv h5 ⟨rfl, rfl⟩
      refine wp_ifneb 97 dX9_clause_92 (by decide) (fun c92 => ?_) (fun c92 => ?_)
      · rw [pcT_r hk4 c92] at hV
        have lin := lk_in tk pp4.2.1 (by omega : lk t k4 ≠ -1)
        have tp5 := (tp3.sw kp4).at (v := (if lk t k4 = 63 then ((sk t k4 : Nat) : Int) + 1 else ((sk t k4 : Nat) : Int)))
        have cw5 := cw4.at (v := (if lk t k4 = 63 then ((sk t k4 : Nat) : Int) + 1 else ((sk t k4 : Nat) : Int)))
        have kp5 := (kp3.tr kp4).tr (kpAt (v := (if lk t k4 = 63 then ((sk t k4 : Nat) : Int) + 1 else ((sk t k4 : Nat) : Int))))
        have at5 : hI (sI h4 1 2 (if lk t k4 = 63 then ((sk t k4 : Nat) : Int) + 1 else ((sk t k4 : Nat) : Int))) 1 2 = ((sk t k4 : Nat) : Int) + 1 := by rw [hI_same, if_pos c92]
        generalize sI h4 1 2 (if lk t k4 = 63 then ((sk t k4 : Nat) : Int) + 1 else ((sk t k4 : Nat) : Int)) = h5 at *
        refine wp_aload_n dX9_clause_97 rfl ?_
        refine wp_bipush dX9_clause_98 rfl ?_
        refine wp_callVv dX9_clause_100 mlX9_45 mvX9_put (S_X9_put cw5 (by simp only [List.length_append]; omega)) rfl rfl (by decide) (by decide) rfl rfl rfl (Nat.le_of_ble_eq_true rfl) ?_
        refine wp_aload_n dX9_clause_103 rfl ?_
        have cw6 := cw5.put (-63)
        have hT : (w ++ c0 ++ c ++ [-63]).length = w.length + c0.length + c.length + 1 := by simp only [List.length_append, List.length_singleton]
        refine wp_getI dX9_clause_104 flX9_17 rfl rfl ?_
        rw [cw6.1]
        generalize hTT : (w ++ c0 ++ c ++ [-63]).length = T at *
        refine wp_istore dX9_clause_107 (by decide) ?_
        refine wp_aload_n dX9_clause_109 rfl ?_
        refine wp_iconst dX9_clause_110 ?_
        refine wp_callVv dX9_clause_111 mlX9_45 mvX9_put (S_X9_put cw6 (by omega)) rfl rfl (by decide) (by decide) rfl rfl rfl (Nat.le_of_ble_eq_true rfl) ?_
        refine wp_aload_n dX9_clause_114 rfl ?_
        refine wp_aload_n dX9_clause_115 rfl ?_
        refine wp_iconst dX9_clause_116 ?_
        refine wp_callV dX9_clause_117 mlX9_36 mvX9_sum (hS6 _ t (w ++ c0 ++ c ++ [-63] ++ [0]) (sk t k4 + 1) ⟨(tp5.sw Kp.pt).sw Kp.pt, tk, by rw [ptH_at, ptH_at, at5]; omega, by omega, by omega, cw6.put 0, by rw [List.length_append, List.length_singleton]; omega⟩) rfl rfl (by decide) (by decide) rfl rfl rfl (Nat.le_of_ble_eq_true rfl) ?_
        rintro rv h7 ⟨rfl, at7, cw7, kp7a⟩
        have kp7 := ((kp5.tr Kp.pt).tr Kp.pt).tr kp7a
        refine wp_ifneb 125 dX9_clause_120 (by decide) (fun c120 => ?_) (fun c120 => ?_)
        · obtain ⟨k7, z7, hk7⟩ := isR_ok c120
          obtain ⟨c2, v2⟩ := z7
          have pp7 := (smP_pp tk 6 (sk t k4 + 1) (by omega)).r hk7
          have cw7 := cw7 _ _ _ hk7
          unfold pcT2 at hV
          rw [hk7] at hV at7
          have at7 : hI h7 1 2 = ((k7 : Nat) : Int) := at7
          dsimp only at hV
          have hl7 : (w ++ c0 ++ c ++ [-63] ++ [0] ++ c2).length + 1 ≤ 160 := by simp only [List.length_append, List.length_cons, List.length_nil] at hTT ⊢; omega
          refine wp_aload_n dX9_clause_125 rfl ?_
          refine wp_bipush dX9_clause_126 rfl ?_
          refine wp_callVv dX9_clause_128 mlX9_45 mvX9_put (S_X9_put cw7 (by omega)) rfl rfl (by decide) (by decide) rfl rfl rfl (Nat.le_of_ble_eq_true rfl) ?_
          refine wp_iload dX9_clause_131 rfl ?_
          have cw8 := cw7.put (-59)
          refine wp_iflt 157 dX9_clause_133 (by decide) (by unfold InR; omega) (fun c133 => ?_) (fun c133 => ?_)
          · exact absurd c133 (by omega)
          · refine wp_iload dX9_clause_136 rfl ?_
            refine wp_aload_n dX9_clause_138 rfl ?_
            refine wp_getC dX9_clause_139 flX9_11 rfl rfl ?_
            refine wp_alen dX9_clause_142 (by first | rfl | exact gs1 hG | exact gs2 hG | exact gs3 hG | exact gs4 hG | exact ws1 hW | exact ws2 hW | assumption) (by decide) ?_
            refine wp_icmpge 157 dX9_clause_143 (by decide) (by unfold InR; omega) (by unfold InR; omega) (fun c143 => ?_) (fun c143 => ?_)
            · exact absurd c143 (by omega)
            · refine wp_aload_n dX9_clause_146 rfl ?_
              refine wp_getC dX9_clause_147 flX9_11 rfl rfl ?_
              refine wp_iload dX9_clause_150 rfl ?_
              refine wp_aload_n dX9_clause_152 rfl ?_
              refine wp_getI dX9_clause_153 flX9_17 rfl rfl ?_
              rw [cw8.1]
              refine wp_iast (n := 160) dX9_clause_156 rfl (by omega) (by omega) ?_
              refine wp_iconst dX9_clause_157 ?_
              exact wp_zret dX9_clause_158 rfl (by omega) (by
            subst hV
            refine ⟨rfl, ?_, fun k9 c9 b9 v9 e9 => ?_, ?_⟩
            · rw [hI_sI, if_neg (by omega), ptH_at]; exact at7
            · cases e9
              have q : CW (ptH h7 (-59)) ((w ++ c0 ++ c ++ [-63]) ++ 0 :: (c2 ++ [-59])) := by have q := cw8; simp only [List.append_assoc, List.cons_append, List.nil_append] at q ⊢; exact q
              have q2 := q.set ((w.length + c0.length + c.length + 2 + c2.length + 1 : Nat) : Int)
              rw [hTT] at q2
              rw [show ((T : Nat) : Int).toNat = T by omega, show (w ++ c0 ++ c ++ [-63] ++ [0] ++ c2 ++ [-59] : List Int).length = w.length + c0.length + c.length + 2 + c2.length + 1 by simp only [List.length_append, List.length_cons, List.length_nil]]
              simp only [List.append_assoc, List.cons_append, List.nil_append] at q2 ⊢
              exact q2
            · exact (kp7.tr Kp.pt).tr (Kp.sI (Or.inr (Or.inr rfl))))
        · refine wp_iconst dX9_clause_123 ?_
          exact wp_zret dX9_clause_124 rfl (by omega) (by
          obtain ⟨e2, hk7⟩ := isR_no c120
          unfold pcT2 at hV
          rw [hk7] at hV at7
          subst hV
          exact ⟨rfl, at7, fun k9 c9 b9 v9 e9 => (by cases e9), kp7⟩)
      · refine wp_iconst dX9_clause_95 ?_
        exact wp_zret dX9_clause_96 rfl (by omega) (by
    rw [pcT_x hk4 c92] at hV
    subst hV
    exact ⟨rfl, by rw [hI_same, if_neg c92]; rfl, fun k9 c9 b9 v9 e9 => (by cases e9), (kp3.tr kp4).tr kpAt⟩)
  refine wp_aload_n dX9_clause_0 rfl ?_
  refine wp_bipush dX9_clause_1 rfl ?_
  refine wp_callV dX9_clause_3 mlX9_28 mvX7_pass (S_X7_pass tp tk hi hl (by unfold InR; omega)) rfl rfl (by decide) (by decide) rfl rfl rfl (Nat.le_of_ble_eq_true rfl) ?_
  rintro rv h1 ⟨rfl, rfl⟩
  refine wp_ifeqb 18 dX9_clause_6 (by decide) (fun c6 => ?_) (fun c6 => ?_)
  · refine wp_iconst dX9_clause_18 ?_
    exact wp_zret dX9_clause_19 rfl (by omega) (by
  rw [pcl_1 c6] at hV
  subst hV
  exact ⟨rfl, by rw [hI_same, if_neg c6]; rfl, fun k9 c9 b9 v9 e9 => (by cases e9), kpAt⟩)
  · have lin := lk_in tk hl (by omega : lk t i ≠ -1)
    rw [if_pos c6]
    refine wp_aload_n dX9_clause_9 rfl ?_
    refine wp_bipush dX9_clause_10 rfl ?_
    refine wp_callV dX9_clause_12 mlX9_28 mvX7_pass (S_X7_pass (i := sk t i + 1) tp.at tk (by rw [hI_same]; omega) (by omega) (by unfold InR; omega)) rfl rfl (by decide) (by decide) rfl rfl rfl (Nat.le_of_ble_eq_true rfl) ?_
    rintro rv h2 ⟨rfl, rfl⟩
    refine wp_ifneb 20 dX9_clause_15 (by decide) (fun c15 => ?_) (fun c15 => ?_)
    · rw [pcl_3 c6 c15] at hV
      unfold pcl2 at hV
      have lin2 := lk_in tk (i := sk t i + 1) (by omega) (by omega : lk t (sk t i + 1) ≠ -1)
      have sb2 := sk_b t (i := sk t i + 1) (by omega)
      have tp2 := tp.at (v := ((sk t (sk t i + 1) + 1 : Nat) : Int))
      have cw2 := cw.at (v := ((sk t (sk t i + 1) + 1 : Nat) : Int))
      have kp2 : Kp SW h (sI h 1 2 ((sk t (sk t i + 1) + 1 : Nat) : Int)) := kpAt
      have at2 : hI (sI h 1 2 ((sk t (sk t i + 1) + 1 : Nat) : Int)) 1 2 = ((sk t (sk t i + 1) + 1 : Nat) : Int) := hI_same
      rw [if_pos c15, sI_sI, show ((sk t (sk t i + 1) : Nat) : Int) + 1 = ((sk t (sk t i + 1) + 1 : Nat) : Int) by omega]
      generalize sI h 1 2 ((sk t (sk t i + 1) + 1 : Nat) : Int) = h2 at *
      have hk0 : sk t (sk t i + 1) + 1 ≤ t.length := by omega
      have hik : i + 2 ≤ sk t (sk t i + 1) + 1 := by omega
      generalize sk t (sk t i + 1) + 1 = k0 at *
      have lb2 := lk_b tk hk0
      have sb0 := sk_b t hk0
      refine wp_aload_n dX9_clause_20 rfl ?_
      refine wp_callV dX9_clause_21 mlX9_32 mvX7_sign (S_X7_sign (i := k0) tp2 tk at2 hk0) rfl rfl (by decide) (by decide) rfl rfl rfl (Nat.le_of_ble_eq_true rfl) ?_
      rintro rv h3 ⟨rfl, rfl⟩
      refine wp_istore_n dX9_clause_24 (by decide) ?_
      refine wp_iload_n dX9_clause_25 rfl ?_
      refine wp_bipush dX9_clause_26 rfl ?_
      refine wp_icmpeq 41 dX9_clause_28 (by decide) (by unfold InR; omega) (by unfold InR; omega) (fun c28 => ?_) (fun c28 => ?_)
      · rw [if_pos (by omega)] at hV
        refine wp_iconst dX9_clause_41 ?_
        refine wp_istore_n dX9_clause_42 (by decide) ?_
        refine wp_iload_n dX9_clause_43 rfl ?_
        refine wp_ifeq 76 dX9_clause_44 (by decide) (by unfold InR; omega) (fun c44 => ?_) (fun c44 => ?_)
        · refine wp_loc [(0, .ref (adr X 5)), (1, .ref (adr X 1)), (3, .int (iI 0))] ⟨rfl, rfl, rfl, trivial⟩ ?_
          exact K76 none [] k0 _ tp2.at hI_same hk0 (by rw [List.append_nil]; exact cw2.at) (by rw [List.length_nil]; omega) (kp2.tr kpAt) hV
        · exact absurd rfl c44
      · refine wp_iload_n dX9_clause_31 rfl ?_
        refine wp_bipush dX9_clause_32 rfl ?_
        refine wp_icmpeq 41 dX9_clause_34 (by decide) (by unfold InR; omega) (by unfold InR; omega) (fun c34 => ?_) (fun c34 => ?_)
        · rw [if_pos (by omega)] at hV
          refine wp_iconst dX9_clause_41 ?_
          refine wp_istore_n dX9_clause_42 (by decide) ?_
          refine wp_iload_n dX9_clause_43 rfl ?_
          refine wp_ifeq 76 dX9_clause_44 (by decide) (by unfold InR; omega) (fun c44 => ?_) (fun c44 => ?_)
          · refine wp_loc [(0, .ref (adr X 5)), (1, .ref (adr X 1)), (3, .int (iI 0))] ⟨rfl, rfl, rfl, trivial⟩ ?_
            exact K76 none [] k0 _ tp2.at hI_same hk0 (by rw [List.append_nil]; exact cw2.at) (by rw [List.length_nil]; omega) (kp2.tr kpAt) hV
          · exact absurd rfl c44
        · rw [if_neg (by omega)] at hV
          refine wp_iconst dX9_clause_37 ?_
          refine wp_goto 42 dX9_clause_38 (by decide) ?_
          refine wp_istore_n dX9_clause_42 (by decide) ?_
          refine wp_iload_n dX9_clause_43 rfl ?_
          refine wp_ifeq 76 dX9_clause_44 (by decide) (by unfold InR; omega) (fun c44 => ?_) (fun c44 => ?_)
          · exact absurd c44 (by omega)
          · refine wp_aload_n dX9_clause_47 rfl ?_
            refine wp_aload_n dX9_clause_48 rfl ?_
            refine wp_iconst dX9_clause_49 ?_
            refine wp_callV dX9_clause_50 mlX9_36 mvX9_sum (hS6 _ t w (sk t k0) ⟨tp2.at, tk, hI_same, by omega, sb0.2, cw2.at, by omega⟩) rfl rfl (by decide) (by decide) rfl rfl rfl (Nat.le_of_ble_eq_true rfl) ?_
            rw [smP_sk t 6 hk0]
            rintro rv h4 ⟨rfl, at4, cw4, kp4⟩
            refine wp_ifneb 58 dX9_clause_53 (by decide) (fun c53 => ?_) (fun c53 => ?_)
            · obtain ⟨k1, z1, hk1⟩ := isR_ok c53
              obtain ⟨c1, v1⟩ := z1
              have pp1 := (smP_pp tk 6 k0 hk0).r hk1
              have pe1 := smP_end tk hk0 hk1
              have cw4 := cw4 _ _ _ hk1
              rw [hk1] at hV at4
              have at4 : hI h4 1 2 = ((k1 : Nat) : Int) := at4
              dsimp only at hV
              have tp4 := (tp2.at (v := ((sk t k0 : Nat) : Int))).sw kp4
              have kp4 := (kp2.tr (kpAt (v := ((sk t k0 : Nat) : Int)))).tr kp4
              refine wp_aload_n dX9_clause_58 rfl ?_
              refine wp_callV dX9_clause_59 mlX9_32 mvX7_sign (S_X7_sign (i := k1) tp4 tk at4 pp1.2.1) rfl rfl (by decide) (by decide) rfl rfl rfl (Nat.le_of_ble_eq_true rfl) ?_
              rintro rv h5 ⟨rfl, rfl⟩
              refine wp_callSp dX9_clause_62 mlX9_40 msX9_isComparing (S_X9_isComparing (by have := lk_b tk pp1.2.1; unfold InR; omega)) rfl rfl (by decide) (by decide) (Nat.le_of_ble_eq_true rfl) ?_
              refine wp_ifneb 76 dX9_clause_65 (by decide) (fun c65 => ?_) (fun c65 => ?_)
              · rw [if_pos c65] at hV
                refine wp_loc [(0, .ref (adr X 5)), (1, .ref (adr X 1)), (3, .int (iI 1))] ⟨rfl, rfl, rfl, trivial⟩ ?_
                exact K76 (some v1) c1 k1 _ tp4.at hI_same pp1.2.1 cw4.at (by omega) (kp4.tr kpAt) hV
              · refine wp_aload_n dX9_clause_68 rfl ?_
                refine wp_bipush dX9_clause_69 rfl ?_
                refine wp_callVv dX9_clause_71 mlX9_45 mvX9_put (S_X9_put cw4.at (by rw [List.length_append]; omega)) rfl rfl (by decide) (by decide) rfl rfl rfl (Nat.le_of_ble_eq_true rfl) ?_
                refine wp_iconst dX9_clause_74 ?_
                exact wp_zret dX9_clause_75 rfl (by omega) (by
            rw [if_neg c65] at hV
            subst hV
            exact ⟨rfl, by rw [ptH_at, hI_same, pe1]; rfl, fun k9 c9 b9 v9 e9 => (by cases e9; have q := (cw4.at (v := ((sk t k1 : Nat) : Int))).put (-59); simp only [List.append_assoc] at q ⊢; exact q), (kp4.tr kpAt).tr Kp.pt⟩)
            · refine wp_iconst dX9_clause_56 ?_
              exact wp_zret dX9_clause_57 rfl (by omega) (by
            obtain ⟨e2, hk1⟩ := isR_no c53
            rw [hk1] at hV at4
            subst hV
            exact ⟨rfl, at4, fun k9 c9 b9 v9 e9 => (by cases e9), (kp2.tr kpAt).tr kp4⟩)
    · refine wp_iconst dX9_clause_18 ?_
      exact wp_zret dX9_clause_19 rfl (by omega) (by
  rw [pcl_2 c6 c15] at hV
  subst hV
  exact ⟨rfl, by rw [hI_same, if_neg c15]; rfl, fun k9 c9 b9 v9 e9 => (by cases e9), kpAt.tr kpAt⟩)

def wdV (R : Nat ⊕ (Nat × List Int)) : Int := match R with
  | .inl e => e
  | .inr _ => -1
def wEnd (W : Nat ⊕ (Nat × List Int × List (Vl × Vl))) : Nat ⊕ (Nat × List Int) := match W with
  | .inl e => .inl e
  | .inr (k, c, _) => .inr (k, c)
theorem wRd_eq (t : List Int) : wRd t = wEnd (pcs t 161 0 [] []) := rfl

set_option maxRecDepth 20000 in
theorem S_X9_read {X : Cx} {h : Hp} {t : List Int} {R : Nat ⊕ (Nat × List Int)} (tp : TPh h t) (tk : TOK t) (hR0 : R = wRd t) : Spec X mX9_read 20 [.ref (adr X 5), .ref (adr X 1)] h (fun rv h' => rv = some (.int (iI (wdV R))) ∧ (∀ k c, R = .inr (k, c) → CW h' c) ∧ Kp SW h h') := by
  have t160 := tk.1
  obtain ⟨W, hW0⟩ : ∃ W, W = pcs t 161 0 [] [] := ⟨_, rfl⟩
  have hR : R = wEnd W := by rw [hR0, wRd_eq, hW0]
  refine spec_wp (Nat.le_of_ble_eq_true rfl) (by decide +kernel) ?_
  refine wp_loc [(0, .ref (adr X 5)), (1, .ref (adr X 1))] ⟨rfl, rfl, trivial⟩ ?_
  have L : ∀ (n : Nat) (c : List Int) (l : List (Vl × Vl)) (j : Nat) (z : Int) (h1 : Hp), (z + n = 161 ∧ 0 ≤ z ∧ z ≤ j) → (j ≤ t.length) → (TPh h1 t) → (hI h1 1 2 = j) → (CW h1 c) → (c.length ≤ j) → (Kp SW h h1) → (W = pcs t n j c l) → WP X mX9_read 20 14 [(0, .ref (adr X 5)), (1, .ref (adr X 1)), (2, .int (iI 1)), (3, .int (iI z))] [] h1 (fun rv h' => rv = some (.int (iI (wdV R))) ∧ (∀ k c, R = .inr (k, c) → CW h' c) ∧ Kp SW h h') := by
    intro n
    induction n with
    | zero =>
      intro c l j z h1 hn hj tp hi cw hcl kp hW
      exfalso; omega
    | succ n ih =>
      intro c l j z h1 hn hj tp hi cw hcl kp hW
      refine wp_iload_n dX9_read_14 rfl ?_
      refine wp_ifeq 51 dX9_read_15 (by decide) (by unfold InR; omega) (fun c15 => ?_) (fun c15 => ?_)
      · exact absurd c15 (by decide)
      · refine wp_iload_n dX9_read_18 rfl ?_
        refine wp_sipush dX9_read_19 rfl ?_
        refine wp_icmpgt 51 dX9_read_22 (by decide) (by unfold InR; omega) (by unfold InR; omega) (fun c22 => ?_) (fun c22 => ?_)
        · exact absurd c22 (by omega)
        · refine wp_aload_n dX9_read_25 rfl ?_
          refine wp_aload_n dX9_read_26 rfl ?_
          refine wp_callV dX9_read_27 mlX9_24 mvX9_clause (S_X9_clause tp tk hi hj cw hcl) rfl rfl (by decide) (by decide) rfl rfl rfl (Nat.le_of_ble_eq_true rfl) ?_
          rintro rv h2 ⟨rfl, at2, cw2, kp2a⟩
          have kp2 := kp.tr kp2a
          refine wp_ifneb 38 dX9_read_30 (by decide) (fun c30 => ?_) (fun c30 => ?_)
          · obtain ⟨k, q2, hV⟩ := isR_ok c30
            obtain ⟨c1, b, v⟩ := q2
            have pp := (pcl_pp tk hj).r hV
            rw [hV] at at2
            have hk : k ≤ t.length := pp.2.1
            have cw2 := cw2 k c1 b v hV
            have tp2 := tp.sw kp2a
            have at2 : hI h2 1 2 = ((k : Nat) : Int) := at2
            have sk2 := sk_b t hk
            have lbk := lk_b tk hk
            rw [pcs, hV] at hW
            dsimp only at hW
            refine wp_aload_n dX9_read_38 rfl ?_
            refine wp_bipush dX9_read_39 rfl ?_
            refine wp_callV dX9_read_41 mlX9_28 mvX7_pass (S_X7_pass (i := k) tp2 tk at2 hk (by unfold InR; omega)) rfl rfl (by decide) (by decide) rfl rfl rfl (Nat.le_of_ble_eq_true rfl) ?_
            rintro rv h3 ⟨rfl, rfl⟩
            by_cases hs : lk t k = 59
            · rw [if_pos hs] at hW
              rw [b2i_t hs, if_pos hs]
              refine wp_istore_n dX9_read_44 (by decide) ?_
              refine wp_iinc dX9_read_45 rfl (by decide) ?_
              refine wp_goto 14 dX9_read_48 (by decide) ?_
              refine wp_loc [(0, .ref (adr X 5)), (1, .ref (adr X 1)), (2, .int (iI 1)), (3, .int (iI (z + 1)))] ⟨rfl, rfl, rfl, rfl, trivial⟩ ?_
              exact ih (c ++ c1) (l ++ [(b, v)]) (sk t k + 1) (z + 1) _ (by omega) (by have := (lk_in tk hk (by omega : lk t k ≠ -1)).1; omega) tp2.at (by rw [hI_same]; omega) cw2.at (by rw [List.length_append]; omega) (kp2.tr kpAt) hW
            · rw [if_neg hs] at hW
              rw [b2i_f hs, if_neg hs]
              refine wp_istore_n dX9_read_44 (by decide) ?_
              refine wp_iinc dX9_read_45 rfl (by decide) ?_
              refine wp_goto 14 dX9_read_48 (by decide) ?_
              refine wp_iload_n dX9_read_14 rfl ?_
              refine wp_ifeq 51 dX9_read_15 (by decide) (by unfold InR; omega) (fun c15 => ?_) (fun c15 => ?_)
              · refine wp_aload_n dX9_read_51 rfl ?_
                refine wp_callV dX9_read_52 mlX9_32 mvX7_sign (S_X7_sign (i := sk t k) tp2.at tk hI_same sk2.2) rfl rfl (by decide) (by decide) rfl rfl rfl (Nat.le_of_ble_eq_true rfl) ?_
                rintro rv h3 ⟨rfl, rfl⟩
                rw [lk_sk t hk, sk_sk t hk, sI_sI]
                refine wp_iconst dX9_read_55 ?_
                refine wp_icmpne 63 dX9_read_56 (by decide) (by unfold InR; omega) (by unfold InR; omega) (fun c56 => ?_) (fun c56 => ?_)
                · refine wp_aload_n dX9_read_63 rfl ?_
                  refine wp_getI dX9_read_64 flX9_21 rfl rfl ?_
                  rw [hI_same]
                  exact wp_iret dX9_read_67 rfl (by
                rw [if_neg c56] at hW
                rw [hW] at hR
                subst hR
                exact ⟨rfl, fun k c e => (by cases e), kp2.tr kpAt⟩)
                · refine wp_iconst dX9_read_59 ?_
                  refine wp_goto 67 dX9_read_60 (by decide) ?_
                  exact wp_iret dX9_read_67 rfl (by
                rw [if_pos c56] at hW
                rw [hW] at hR
                subst hR
                exact ⟨rfl, fun k c e => (by cases e; exact cw2.at), kp2.tr kpAt⟩)
              · exact absurd rfl c15
          · refine wp_aload_n dX9_read_33 rfl ?_
            refine wp_getI dX9_read_34 flX9_21 rfl rfl ?_
            rw [at2]
            exact wp_iret dX9_read_37 rfl (by
    obtain ⟨e, hV⟩ := isR_no c30
    rw [pcs, hV] at hW
    dsimp only at hW
    rw [hW] at hR
    rw [hV]
    subst hR
    exact ⟨rfl, fun k c e => (by cases e), kp2⟩)
  refine wp_aload_n dX9_read_0 rfl ?_
  refine wp_iconst dX9_read_1 ?_
  refine wp_putI dX9_read_2 plX9_17 rfl rfl ?_
  refine wp_aload_n dX9_read_5 rfl ?_
  refine wp_iconst dX9_read_6 ?_
  refine wp_putI dX9_read_7 plX9_21 rfl rfl ?_
  refine wp_iconst dX9_read_10 ?_
  refine wp_istore_n dX9_read_11 (by decide) ?_
  refine wp_iconst dX9_read_12 ?_
  refine wp_istore_n dX9_read_13 (by decide) ?_
  refine wp_loc [(0, .ref (adr X 5)), (1, .ref (adr X 1)), (2, .int (iI 1)), (3, .int (iI 0))] ⟨rfl, rfl, rfl, rfl, trivial⟩ ?_
  exact L 161 [] [] 0 0 _ (by omega) (Nat.zero_le _) (tp.oth (by decide) (by decide)).at hI_same ⟨by rw [hI_sI, if_neg (by omega), hI_same]; rfl, fun i hi => absurd hi (Nat.not_lt_zero i)⟩ (Nat.zero_le _) ((Kp.sI (Or.inr (Or.inl rfl))).tr kpAt) hW0

