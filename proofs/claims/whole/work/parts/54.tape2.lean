/-! the TAPE is read -/
theorem AC.setT {h h' : Hp} {σ : Sg} {t : List Int} (a : AC h σ) (o : SOK σ) (tp : TPh h' t) (hk : ∀ c j, rs c j → c ≠ 1 → c ≠ 2 → hI h' c j = hI h c j) (h6 : hR h' 0 6 = hR h 0 6) (h7 : hR h' 0 7 = hR h 0 7) : AC h' (t, σ.2) := by
  have hg : hR h 0 6 = 20 ∨ hR h 0 6 = 25 := by rcases a.2.2.2.1.1 with q | q <;> omega
  have hw4 := o.2.1.1
  obtain ⟨⟨t1, t2⟩, ⟨w1, w2⟩, d1, r1, ⟨g1, g2, g3, g4, g5, g6, g7⟩, ⟨k1, k2⟩, ⟨c1, c2, c3, c4⟩, ⟨i1, i2⟩, ⟨b1, b2⟩⟩ := a
  have lie : ∀ (P : Int) (x y : Nat) (l : Lie) (b : Nat), (b = 34 ∨ b = 35) → lieAt h P b x b y l → lieAt h' P b x b y l := by
    intro P x y l b hb q
    exact ⟨fun i hi => by rw [hk b _ (by unfold rs; omega) (by omega) (by omega)]; exact q.1 i hi, fun i hi => by rw [hk b _ (by unfold rs; omega) (by omega) (by omega)]; exact q.2 i hi⟩
  have hb7 := r1.b
  have r2 : GR h' := r1.keep h6 h7 (fun i hi => hk _ i (by unfold rs; omega) (by omega) (by omega))
  unfold AC
  rw [h6]
  refine ⟨tp, ⟨?_, fun w t ht => ?_⟩, ?_, r2, ⟨?_, ?_, ?_, fun i hi => ?_, ?_, ?_, fun hp s hs => ?_⟩, ⟨?_, fun i q hq => ?_⟩, ⟨?_, ?_, ?_, fun k l hl => ?_⟩, ⟨?_, fun l hl => ?_⟩, ⟨?_, fun hb => ?_⟩⟩
  · rw [hk 0 4 (by unfold rs; omega) (by omega) (by omega)]; exact w1
  · obtain ⟨k, c, q1, q2, q3⟩ := w2 w t ht
    have hwl : w < (sW σ).length := (List.getElem?_eq_some_iff.mp ht).1
    refine ⟨k, c, q1, by rw [hk _ 1 (by unfold rs; omega) (by omega) (by omega)]; exact q2, fun i hi => by rw [hk _ i (by unfold rs; omega) (by omega) (by omega)]; exact q3 i hi⟩
  · rw [hk 0 5 (by unfold rs; omega) (by omega) (by omega)]; exact d1
  · rw [hk _ 4 (by unfold rs; omega) (by omega) (by omega)]; exact g1
  · rw [hk _ 5 (by unfold rs; omega) (by omega) (by omega)]; exact g2
  · rw [hk _ 6 (by unfold rs; omega) (by omega) (by omega)]; exact g3
  · rw [hk _ i (by unfold rs; omega) (by omega) (by omega)]; exact g4 i hi
  · refine Eq.trans ?_ g5; funext i; unfold htO; rw [hk _ 4 (by unfold rs; omega) (by omega) (by omega), hk _ i.toNat (by unfold rs; omega) (by omega) (by omega)]
  · refine Eq.trans ?_ g6; funext i; unfold shO; rw [hk _ i.toNat (by unfold rs; omega) (by omega) (by omega)]
  · rw [hk _ s (by unfold rs; omega) (by omega) (by omega), hk _ s (by unfold rs; omega) (by omega) (by omega)]; exact g7 hp s hs
  · rw [hk 30 2 (by unfold rs; omega) (by omega) (by omega)]; exact k1
  · rw [hk 31 i (by unfold rs; omega) (by omega) (by omega), hk 32 i (by unfold rs; omega) (by omega) (by omega)]; exact k2 i q hq
  · rw [hk 33 2 (by unfold rs; omega) (by omega) (by omega)]; exact c1
  · rw [hk 33 1 (by unfold rs; omega) (by omega) (by omega)]; exact c2
  · rw [hk 33 1 (by unfold rs; omega) (by omega) (by omega)]; exact c3
  · rw [hk 33 1 (by unfold rs; omega) (by omega) (by omega)]
    refine ⟨lie _ _ _ _ 34 (Or.inl rfl) (c4 k l hl).1, fun i hi => ?_⟩
    rw [hk 34 _ (by unfold rs; omega) (by omega) (by omega)]
    exact (c4 k l hl).2 i hi
  · rw [hk 0 11 (by unfold rs; omega) (by omega) (by omega)]; exact i1
  · refine ⟨lie _ _ _ _ 35 (Or.inr rfl) (i2 l hl).1, fun i hi => ?_⟩
    rw [hk 35 _ (by unfold rs; omega) (by omega) (by omega)]
    exact (i2 l hl).2 i hi
  · rw [hk 36 5 (by unfold rs; omega) (by omega) (by omega)]; exact b1
  · rw [hk 36 5 (by unfold rs; omega) (by omega) (by omega)] at hb
    rw [hk 36 4 (by unfold rs; omega) (by omega) (by omega)]
    refine ⟨(b2 hb).1, fun s s1 s2 => ?_⟩
    rw [hk 37 _ (by unfold rs; omega) (by omega) (by omega), hk 38 _ (by unfold rs; omega) (by omega) (by omega), hk 39 _ (by unfold rs; omega) (by omega) (by omega), hk 40 _ (by unfold rs; omega) (by omega) (by omega)]
    exact (b2 hb).2 s s1 s2
theorem AC.setD {h h' : Hp} {σ : Sg} {w : Int} (a : AC h σ) (o : SOK σ) (hd : hI h' 0 5 = w) (hk : ∀ c j, rs c j → ¬ (c = 0 ∧ j = 5) → hI h' c j = hI h c j) (h6 : hR h' 0 6 = hR h 0 6) (h7 : hR h' 0 7 = hR h 0 7) : AC h' (σ.1, σ.2.1, w, σ.2.2.2) := by
  have hg : hR h 0 6 = 20 ∨ hR h 0 6 = 25 := by rcases a.2.2.2.1.1 with q | q <;> omega
  have hw4 := o.2.1.1
  obtain ⟨⟨t1, t2⟩, ⟨w1, w2⟩, d1, r1, ⟨g1, g2, g3, g4, g5, g6, g7⟩, ⟨k1, k2⟩, ⟨c1, c2, c3, c4⟩, ⟨i1, i2⟩, ⟨b1, b2⟩⟩ := a
  have lie : ∀ (P : Int) (x y : Nat) (l : Lie) (b : Nat), (b = 34 ∨ b = 35) → lieAt h P b x b y l → lieAt h' P b x b y l := by
    intro P x y l b hb q
    exact ⟨fun i hi => by rw [hk b _ (by unfold rs; omega) (by omega)]; exact q.1 i hi, fun i hi => by rw [hk b _ (by unfold rs; omega) (by omega)]; exact q.2 i hi⟩
  have hb7 := r1.b
  have r2 : GR h' := r1.keep h6 h7 (fun i hi => hk _ i (by unfold rs; omega) (by omega))
  unfold AC
  rw [h6]
  refine ⟨⟨?_, fun i hi => ?_⟩, ⟨?_, fun w t ht => ?_⟩, ?_, r2, ⟨?_, ?_, ?_, fun i hi => ?_, ?_, ?_, fun hp s hs => ?_⟩, ⟨?_, fun i q hq => ?_⟩, ⟨?_, ?_, ?_, fun k l hl => ?_⟩, ⟨?_, fun l hl => ?_⟩, ⟨?_, fun hb => ?_⟩⟩
  · rw [hk 1 1 (by unfold rs; omega) (by omega)]; exact t1
  · rw [hk 2 i (by unfold rs; omega) (by omega)]; exact t2 i hi
  · rw [hk 0 4 (by unfold rs; omega) (by omega)]; exact w1
  · obtain ⟨k, c, q1, q2, q3⟩ := w2 w t ht
    have hwl : w < (sW σ).length := (List.getElem?_eq_some_iff.mp ht).1
    refine ⟨k, c, q1, by rw [hk _ 1 (by unfold rs; omega) (by omega)]; exact q2, fun i hi => by rw [hk _ i (by unfold rs; omega) (by omega)]; exact q3 i hi⟩
  · exact hd
  · rw [hk _ 4 (by unfold rs; omega) (by omega)]; exact g1
  · rw [hk _ 5 (by unfold rs; omega) (by omega)]; exact g2
  · rw [hk _ 6 (by unfold rs; omega) (by omega)]; exact g3
  · rw [hk _ i (by unfold rs; omega) (by omega)]; exact g4 i hi
  · refine Eq.trans ?_ g5; funext i; unfold htO; rw [hk _ 4 (by unfold rs; omega) (by omega), hk _ i.toNat (by unfold rs; omega) (by omega)]
  · refine Eq.trans ?_ g6; funext i; unfold shO; rw [hk _ i.toNat (by unfold rs; omega) (by omega)]
  · rw [hk _ s (by unfold rs; omega) (by omega), hk _ s (by unfold rs; omega) (by omega)]; exact g7 hp s hs
  · rw [hk 30 2 (by unfold rs; omega) (by omega)]; exact k1
  · rw [hk 31 i (by unfold rs; omega) (by omega), hk 32 i (by unfold rs; omega) (by omega)]; exact k2 i q hq
  · rw [hk 33 2 (by unfold rs; omega) (by omega)]; exact c1
  · rw [hk 33 1 (by unfold rs; omega) (by omega)]; exact c2
  · rw [hk 33 1 (by unfold rs; omega) (by omega)]; exact c3
  · rw [hk 33 1 (by unfold rs; omega) (by omega)]
    refine ⟨lie _ _ _ _ 34 (Or.inl rfl) (c4 k l hl).1, fun i hi => ?_⟩
    rw [hk 34 _ (by unfold rs; omega) (by omega)]
    exact (c4 k l hl).2 i hi
  · rw [hk 0 11 (by unfold rs; omega) (by omega)]; exact i1
  · refine ⟨lie _ _ _ _ 35 (Or.inr rfl) (i2 l hl).1, fun i hi => ?_⟩
    rw [hk 35 _ (by unfold rs; omega) (by omega)]
    exact (i2 l hl).2 i hi
  · rw [hk 36 5 (by unfold rs; omega) (by omega)]; exact b1
  · rw [hk 36 5 (by unfold rs; omega) (by omega)] at hb
    rw [hk 36 4 (by unfold rs; omega) (by omega)]
    refine ⟨(b2 hb).1, fun s s1 s2 => ?_⟩
    rw [hk 37 _ (by unfold rs; omega) (by omega), hk 38 _ (by unfold rs; omega) (by omega), hk 39 _ (by unfold rs; omega) (by omega), hk 40 _ (by unfold rs; omega) (by omega)]
    exact (b2 hb).2 s s1 s2
theorem sI_sI (h : Hp) (a j : Nat) (v w : Int) : sI (sI h a j v) a j w = sI h a j w := by
  unfold sI
  refine Prod.ext ?_ rfl
  funext b k
  show up2 (up2 h.1 a j v) a j w b k = up2 h.1 a j w b k
  unfold up2
  split <;> rfl
theorem sI_self {h : Hp} {a j : Nat} {v : Int} (e : hI h a j = v) : sI h a j v = h := by
  unfold sI
  refine Prod.ext ?_ rfl
  funext b k
  show up2 h.1 a j v b k = h.1 b k
  unfold up2
  split
  · rename_i q; rw [q.1, q.2, ← e]; rfl
  · rfl
theorem hI_same {h : Hp} {a j : Nat} {v : Int} : hI (sI h a j v) a j = v := by rw [hI_sI, if_pos ⟨rfl, rfl⟩]
theorem hI_len {h : Hp} {v : Int} : hI (sI h 1 2 v) 1 1 = hI h 1 1 := by rw [hI_sI, if_neg (by decide)]
theorem bt_in {t : List Int} {i : Nat} (h : i < t.length) : bt t i = t.getD i 0 := by
  unfold bt
  rw [List.getD_eq_getElem?_getD, List.getD_eq_getElem?_getD, List.getElem?_eq_getElem h]
  rfl
theorem bt_out {t : List Int} {i : Nat} (h : t.length ≤ i) : bt t i = -1 := by
  unfold bt
  rw [List.getD_eq_getElem?_getD, List.getElem?_eq_none h]
  rfl
theorem bt_b {t : List Int} (k : TOK t) {i : Nat} (h : i < t.length) : 1 ≤ bt t i ∧ bt t i ≤ 255 := by
  rw [bt_in h, List.getD_eq_getElem?_getD, List.getElem?_eq_getElem h]
  exact k.2 _ (List.getElem_mem h)
theorem skF_b (t : List Int) : ∀ (n i : Nat), i ≤ skF t n i ∧ skF t n i ≤ i + n
  | 0, i => ⟨Nat.le_refl _, Nat.le_refl _⟩
  | n + 1, i => by
    have := skF_b t n (i + 1)
    unfold skF
    split <;> omega
theorem sk_b (t : List Int) {i : Nat} (h : i ≤ t.length) : i ≤ sk t i ∧ sk t i ≤ t.length := by
  have := skF_b t (t.length - i) i
  unfold sk
  omega
theorem sk_end {t : List Int} {i : Nat} (h : i ≤ t.length) : lk t i = -1 ↔ sk t i = t.length ∨ bt t (sk t i) = -1 := by
  unfold lk
  constructor
  · intro q; exact Or.inr q
  · intro q
    rcases q with q | q
    · rw [q]; exact bt_out (Nat.le_refl _)
    · exact q
theorem lk_in {t : List Int} (k : TOK t) {i : Nat} (h : i ≤ t.length) (hl : lk t i ≠ -1) : sk t i < t.length ∧ 1 ≤ lk t i ∧ lk t i ≤ 255 := by
  have hb := sk_b t h
  have h1 : sk t i < t.length := by
    rcases Nat.lt_or_ge (sk t i) t.length with q | q
    · exact q
    · exact absurd (bt_out q) hl
  exact ⟨h1, bt_b k h1⟩
theorem lk_b {t : List Int} (k : TOK t) {i : Nat} (h : i ≤ t.length) : -1 ≤ lk t i ∧ lk t i ≤ 255 := by
  by_cases q : lk t i = -1
  · omega
  · have := lk_in k h q; omega
theorem skF_sk (t : List Int) : ∀ (n i : Nat), i + n = t.length → bt t (skF t n i) ≠ 32
  | 0, i, h => by rw [skF, bt_out (by omega)]; decide
  | n + 1, i, h => by
    unfold skF
    split
    · exact skF_sk t n (i + 1) (by omega)
    · assumption
theorem sk_no (t : List Int) {i : Nat} (h : i ≤ t.length) : bt t (sk t i) ≠ 32 := skF_sk t _ i (by omega)
theorem sk_sk (t : List Int) {i : Nat} (h : i ≤ t.length) : sk t (sk t i) = sk t i := by
  have h1 := sk_no t h
  have hb := sk_b t h
  generalize sk t i = k at h1 hb
  unfold sk
  cases hn : t.length - k with
  | zero => rfl
  | succ n => unfold skF; rw [if_neg h1]
theorem lk_sk (t : List Int) {i : Nat} (h : i ≤ t.length) : lk t (sk t i) = lk t i := by unfold lk; rw [sk_sk t h]
theorem nmF_b {t : List Int} (k : TOK t) (m : Nat) (hm : m ≤ 4) : ∀ (n i c : Nat) (v : Int), i + n = t.length → c ≤ m → 0 ≤ v ∧ v < 10 ^ c → ∀ r, nmF t m n i c v = r → match r with
    | .inl e => i ≤ e ∧ e ≤ t.length
    | .inr (e, w) => i ≤ e ∧ e ≤ t.length ∧ (c = 0 → i < e) ∧ 0 ≤ w ∧ w < 10 ^ m
  | 0, i, c, v, hn, hc, hv, r, hr => by
    unfold nmF at hr
    have h10 : (10 : Int) ^ c ≤ 10 ^ m := by
      exact_mod_cast Nat.pow_le_pow_right (by decide) hc
    split at hr <;> subst hr
    · exact ⟨Nat.le_refl _, by omega⟩
    · exact ⟨Nat.le_refl _, by omega, fun q => absurd q (by assumption), hv.1, by omega⟩
  | n + 1, i, c, v, hn, hc, hv, r, hr => by
    unfold nmF at hr
    have h10 : (10 : Int) ^ c ≤ 10 ^ m := by
      exact_mod_cast Nat.pow_le_pow_right (by decide) hc
    split at hr
    · split at hr
      · subst hr; exact ⟨Nat.le_refl _, by omega⟩
      · have h1 := nmF_b k m hm n (i + 1) (c + 1) (v * 10 + bt t i - 48) (by omega) (by omega) (by rw [Int.pow_succ]; omega) r hr
        cases r with
        | inl e => exact ⟨by omega, h1.2⟩
        | inr q => exact ⟨by have := h1.1; omega, h1.2.1, fun _ => by have := h1.1; omega, h1.2.2.2⟩
    · split at hr <;> subst hr
      · exact ⟨Nat.le_refl _, by omega⟩
      · exact ⟨Nat.le_refl _, by omega, fun q => absurd q (by assumption), hv.1, by omega⟩
theorem nml {t : List Int} (k : TOK t) {m i e : Nat} (hm : m ≤ 4) (hi : i ≤ t.length) (h : nm t m i = .inl e) : i ≤ e ∧ e ≤ t.length := nmF_b k m hm _ i 0 0 (by omega) (by omega) (by omega) _ h
theorem nmr {t : List Int} (k : TOK t) {m i e : Nat} {w : Int} (hm : m ≤ 4) (hi : i ≤ t.length) (h : nm t m i = .inr (e, w)) : i < e ∧ e ≤ t.length ∧ 0 ≤ w ∧ w < 10 ^ m := by
  have := nmF_b k m hm _ i 0 0 (by omega) (by omega) (by omega) _ h
  exact ⟨this.2.2.1 rfl, this.2.1, this.2.2.2⟩
theorem TPh.at {h : Hp} {t : List Int} (tp : TPh h t) {v : Int} : TPh (sI h 1 2 v) t := ⟨by rw [hI_sI, if_neg (by decide)]; exact tp.1, fun i hi => by rw [hI_sI, if_neg (by omega)]; exact tp.2 i hi⟩
def nmQ (h : Hp) (r : Nat ⊕ (Nat × Int)) (rv : Option Value) (h' : Hp) : Prop := match r with
  | .inl e => rv = some (.int (iI (-1))) ∧ h' = sI h 1 2 e
  | .inr (k, v) => rv = some (.int (iI v)) ∧ h' = sI h 1 2 k

set_option maxRecDepth 20000 in
theorem S_X7_sign {X : Cx} {h : Hp} {t : List Int} {i : Nat} (tp : TPh h t) (tk : TOK t) (hi : hI h 1 2 = i) (hl : i ≤ t.length) : Spec X mX7_sign 0 [.ref (adr X 1)] h (fun rv h' => rv = some (.int (iI (lk t i))) ∧ h' = sI h 1 2 (sk t i)) := by
  have t160 := tk.1
  obtain ⟨V, hV0⟩ : ∃ V : Int, V = lk t i := ⟨_, rfl⟩
  obtain ⟨K, hK0⟩ : ∃ K : Int, K = ((sk t i : Nat) : Int) := ⟨_, rfl⟩
  rw [← hV0, ← hK0]
  refine spec_wp (Nat.le_of_ble_eq_true rfl) (by decide +kernel) ?_
  refine wp_loc [(0, .ref (adr X 1))] ⟨rfl, trivial⟩ ?_
  have L : ∀ (n : Nat) (j : Nat), (j + n = t.length) → (K = ((skF t n j : Nat) : Int)) → (V = bt t (skF t n j)) → WP X mX7_sign 0 5 [(0, .ref (adr X 1)), (1, .int (iI ((j : Nat) : Int)))] [] h (fun rv h' => rv = some (.int (iI V)) ∧ h' = sI h 1 2 K) := by
    intro n
    induction n with
    | zero =>
      intro j hn hK hV
      refine wp_iload_n dX7_sign_5 rfl ?_
      have t1 := tp.1
      refine wp_iflt 55 dX7_sign_6 (by decide) (by unfold InR; omega) (fun c6 => ?_) (fun c6 => ?_)
      · exact absurd c6 (by omega)
      · refine wp_iload_n dX7_sign_9 rfl ?_
        refine wp_aload_n dX7_sign_10 rfl ?_
        refine wp_getI dX7_sign_11 flX7_15 rfl rfl ?_
        refine wp_icmpge 55 dX7_sign_14 (by decide) (by unfold InR; omega) (by unfold InR; omega) (fun c14 => ?_) (fun c14 => ?_)
        · refine wp_aload_n dX7_sign_55 rfl ?_
          refine wp_aload_n dX7_sign_56 rfl ?_
          refine wp_getI dX7_sign_57 flX7_15 rfl rfl ?_
          refine wp_putI dX7_sign_60 plX7_19 rfl rfl ?_
          refine wp_iconst dX7_sign_63 ?_
          exact wp_iret dX7_sign_64 rfl (⟨vi (by rw [hV, skF, bt_out (by omega)]), by rw [hK, skF, t1, ← hn]; rfl⟩)
        · exact absurd c14 (by omega)
    | succ n ih =>
      intro j hn hK hV
      refine wp_iload_n dX7_sign_5 rfl ?_
      have t1 := tp.1
      have hb := bt_b tk (i := j) (by omega)
      have e := tp.2 j (by omega)
      rw [← bt_in (by omega)] at e
      refine wp_iflt 55 dX7_sign_6 (by decide) (by unfold InR; omega) (fun c6 => ?_) (fun c6 => ?_)
      · exact absurd c6 (by omega)
      · refine wp_iload_n dX7_sign_9 rfl ?_
        refine wp_aload_n dX7_sign_10 rfl ?_
        refine wp_getI dX7_sign_11 flX7_15 rfl rfl ?_
        refine wp_icmpge 55 dX7_sign_14 (by decide) (by unfold InR; omega) (by unfold InR; omega) (fun c14 => ?_) (fun c14 => ?_)
        · exact absurd c14 (by omega)
        · refine wp_iload_n dX7_sign_17 rfl ?_
          refine wp_aload_n dX7_sign_18 rfl ?_
          refine wp_getC dX7_sign_19 flX7_11 rfl rfl ?_
          refine wp_alen dX7_sign_22 (by first | rfl | exact gs1 hG | exact gs2 hG | exact gs3 hG | exact gs4 hG | exact ws1 hW | exact ws2 hW | assumption) (by decide) ?_
          refine wp_icmpge 55 dX7_sign_23 (by decide) (by unfold InR; omega) (by unfold InR; omega) (fun c23 => ?_) (fun c23 => ?_)
          · exact absurd c23 (by omega)
          · refine wp_aload_n dX7_sign_26 rfl ?_
            refine wp_getC dX7_sign_27 flX7_11 rfl rfl ?_
            refine wp_iload_n dX7_sign_30 rfl ?_
            refine wp_iald (n := 160) dX7_sign_31 rfl (by omega) (by omega) ?_
            rw [show ((j : Nat) : Int).toNat = j by omega, e]
            refine wp_bipush dX7_sign_32 rfl ?_
            refine wp_icmpeq 49 dX7_sign_34 (by decide) (by unfold InR; omega) (by unfold InR; omega) (fun c34 => ?_) (fun c34 => ?_)
            · refine wp_iinc dX7_sign_49 rfl (by decide) ?_
              refine wp_goto 5 dX7_sign_52 (by decide) ?_
              unfold skF at hK hV
              rw [if_pos c34] at hK hV
              refine wp_loc [(0, .ref (adr X 1)), (1, .int (iI ((j + 1 : Nat) : Int)))] ⟨rfl, rfl, trivial⟩ ?_
              exact ih (j + 1) (by omega) hK hV
            · refine wp_aload_n dX7_sign_37 rfl ?_
              refine wp_iload_n dX7_sign_38 rfl ?_
              refine wp_putI dX7_sign_39 plX7_19 rfl rfl ?_
              refine wp_aload_n dX7_sign_42 rfl ?_
              refine wp_getC dX7_sign_43 flX7_11 rfl rfl ?_
              refine wp_iload_n dX7_sign_46 rfl ?_
              refine wp_iald (n := 160) dX7_sign_47 rfl (by omega) (by omega) ?_
              rw [show ((j : Nat) : Int).toNat = j by omega, hI_sI, if_neg (by omega), e]
              unfold skF at hK hV
              rw [if_neg c34] at hK hV
              exact wp_iret dX7_sign_48 rfl (⟨vi hV.symm, by rw [hK]⟩)
  refine wp_aload_n dX7_sign_0 rfl ?_
  refine wp_getI dX7_sign_1 flX7_19 rfl rfl ?_
  rw [hi]
  refine wp_istore_n dX7_sign_4 (by decide) ?_
  refine wp_loc [(0, .ref (adr X 1)), (1, .int (iI ((i : Nat) : Int)))] ⟨rfl, rfl, trivial⟩ ?_
  exact L (t.length - i) i (by omega) hK0 hV0

set_option maxRecDepth 20000 in
theorem S_X7_pass {X : Cx} {h : Hp} {t : List Int} {i : Nat} {w : Int} (tp : TPh h t) (tk : TOK t) (hi : hI h 1 2 = i) (hl : i ≤ t.length) (hw : InR w) : Spec X mX7_pass 1 [.ref (adr X 1), .int (iI w)] h (fun rv h' => rv = some (.int (iI (b2i (lk t i = w)))) ∧ h' = sI h 1 2 (if lk t i = w then ((sk t i : Nat) : Int) + 1 else ((sk t i : Nat) : Int))) := by
  have lb := lk_b tk hl
  refine spec_wp (Nat.le_of_ble_eq_true rfl) (by decide +kernel) ?_
  refine wp_loc [(0, .ref (adr X 1)), (1, .int (iI w))] ⟨rfl, rfl, trivial⟩ ?_
  refine wp_aload_n dX7_pass_0 rfl ?_
  refine wp_callV dX7_pass_1 mlX7_22 mvX7_sign (S_X7_sign tp tk hi hl) rfl rfl (by decide) (by decide) rfl rfl rfl (Nat.le_of_ble_eq_true rfl) ?_
  rintro rv h1 ⟨rfl, rfl⟩
  refine wp_iload_n dX7_pass_4 rfl ?_
  refine wp_icmpeq 10 dX7_pass_5 (by decide) (by unfold InR; omega) hw (fun c5 => ?_) (fun c5 => ?_)
  · refine wp_aload_n dX7_pass_10 rfl ?_
    refine wp_dup dX7_pass_11 rfl ?_
    refine wp_getI dX7_pass_12 flX7_19 rfl rfl ?_
    rw [hI_same]
    refine wp_iconst dX7_pass_15 ?_
    refine wp_iadd dX7_pass_16 ?_
    refine wp_putI dX7_pass_17 plX7_19 rfl rfl ?_
    rw [sI_sI]
    refine wp_iconst dX7_pass_20 ?_
    exact wp_zret dX7_pass_21 rfl (by omega) (⟨vb1 c5, by rw [if_pos c5]⟩)
  · refine wp_iconst dX7_pass_8 ?_
    exact wp_zret dX7_pass_9 rfl (by omega) (⟨vb0 c5, by rw [if_neg c5]⟩)

set_option maxRecDepth 20000 in
theorem S_X7_number {X : Cx} {h : Hp} {t : List Int} {i m : Nat} (tp : TPh h t) (tk : TOK t) (hi : hI h 1 2 = i) (hl : i ≤ t.length) (hm : m ≤ 4) : Spec X mX7_number 0 [.ref (adr X 1), .int (iI ((m : Nat) : Int))] h (nmQ h (nm t m i)) := by
  have t160 := tk.1
  obtain ⟨V, hV0⟩ : ∃ V, V = nm t m i := ⟨_, rfl⟩
  rw [← hV0]
  refine spec_wp (Nat.le_of_ble_eq_true rfl) (by decide +kernel) ?_
  refine wp_loc [(0, .ref (adr X 1)), (1, .int (iI ((m : Nat) : Int)))] ⟨rfl, rfl, trivial⟩ ?_
  have L : ∀ (n : Nat) (j c : Nat) (v : Int), (j + n = t.length) → (c ≤ m) → (V = nmF t m n j c v) → WP X mX7_number 0 4 [(0, .ref (adr X 1)), (1, .int (iI ((m : Nat) : Int))), (2, .int (iI v)), (3, .int (iI ((c : Nat) : Int)))] [] (sI h 1 2 ((j : Nat) : Int)) (nmQ h V) := by
    intro n
    induction n with
    | zero =>
      intro j c v hn hc hV
      refine wp_aload_n dX7_number_4 rfl ?_
      refine wp_getI dX7_number_5 flX7_19 rfl rfl ?_
      have t1 := tp.1
      rw [hI_same]
      refine wp_iflt 96 dX7_number_8 (by decide) (by unfold InR; omega) (fun c8 => ?_) (fun c8 => ?_)
      · exact absurd c8 (by omega)
      · refine wp_aload_n dX7_number_11 rfl ?_
        refine wp_getI dX7_number_12 flX7_19 rfl rfl ?_
        refine wp_aload_n dX7_number_15 rfl ?_
        refine wp_getI dX7_number_16 flX7_15 rfl rfl ?_
        rw [hI_same, hI_len]
        refine wp_icmpge 96 dX7_number_19 (by decide) (by unfold InR; omega) (by unfold InR; omega) (fun c19 => ?_) (fun c19 => ?_)
        · refine wp_iload_n dX7_number_96 rfl ?_
          refine wp_ifne 104 dX7_number_97 (by decide) (by unfold InR; omega) (fun c97 => ?_) (fun c97 => ?_)
          · refine wp_iload_n dX7_number_104 rfl ?_
            exact wp_iret dX7_number_105 rfl (by subst hV; unfold nmF; first | (rw [if_pos (by omega)]; exact ⟨rfl, rfl⟩) | (rw [if_neg (by omega)]; exact ⟨rfl, rfl⟩))
          · refine wp_iconst dX7_number_100 ?_
            refine wp_goto 105 dX7_number_101 (by decide) ?_
            exact wp_iret dX7_number_105 rfl (by subst hV; unfold nmF; first | (rw [if_pos (by omega)]; exact ⟨rfl, rfl⟩) | (rw [if_neg (by omega)]; exact ⟨rfl, rfl⟩))
        · exact absurd c19 (by omega)
    | succ n ih =>
      intro j c v hn hc hV
      refine wp_aload_n dX7_number_4 rfl ?_
      refine wp_getI dX7_number_5 flX7_19 rfl rfl ?_
      have t1 := tp.1
      have hb := bt_b tk (i := j) (by omega)
      have e := tp.2 j (by omega)
      rw [← bt_in (by omega)] at e
      rw [hI_same]
      refine wp_iflt 96 dX7_number_8 (by decide) (by unfold InR; omega) (fun c8 => ?_) (fun c8 => ?_)
      · exact absurd c8 (by omega)
      · refine wp_aload_n dX7_number_11 rfl ?_
        refine wp_getI dX7_number_12 flX7_19 rfl rfl ?_
        refine wp_aload_n dX7_number_15 rfl ?_
        refine wp_getI dX7_number_16 flX7_15 rfl rfl ?_
        rw [hI_same, hI_len]
        refine wp_icmpge 96 dX7_number_19 (by decide) (by unfold InR; omega) (by unfold InR; omega) (fun c19 => ?_) (fun c19 => ?_)
        · exact absurd c19 (by omega)
        · refine wp_aload_n dX7_number_22 rfl ?_
          refine wp_getI dX7_number_23 flX7_19 rfl rfl ?_
          refine wp_aload_n dX7_number_26 rfl ?_
          refine wp_getC dX7_number_27 flX7_11 rfl rfl ?_
          rw [hI_same]
          refine wp_alen dX7_number_30 (by first | rfl | exact gs1 hG | exact gs2 hG | exact gs3 hG | exact gs4 hG | exact ws1 hW | exact ws2 hW | assumption) (by decide) ?_
          refine wp_icmpge 96 dX7_number_31 (by decide) (by unfold InR; omega) (by unfold InR; omega) (fun c31 => ?_) (fun c31 => ?_)
          · exact absurd c31 (by omega)
          · refine wp_aload_n dX7_number_34 rfl ?_
            refine wp_getC dX7_number_35 flX7_11 rfl rfl ?_
            refine wp_aload_n dX7_number_38 rfl ?_
            refine wp_getI dX7_number_39 flX7_19 rfl rfl ?_
            rw [hI_same]
            refine wp_iald (n := 160) dX7_number_42 rfl (by omega) (by omega) ?_
            rw [show ((j : Nat) : Int).toNat = j by omega, hI_sI, if_neg (by omega), e]
            refine wp_istore dX7_number_43 (by decide) ?_
            refine wp_iload dX7_number_45 rfl ?_
            refine wp_bipush dX7_number_47 rfl ?_
            refine wp_icmplt 96 dX7_number_49 (by decide) (by unfold InR; omega) (by unfold InR; omega) (fun c49 => ?_) (fun c49 => ?_)
            · have hd : ¬ (48 ≤ bt t j ∧ bt t j ≤ 57) := by omega
              unfold nmF at hV
              rw [if_neg hd] at hV
              refine wp_iload_n dX7_number_96 rfl ?_
              refine wp_ifne 104 dX7_number_97 (by decide) (by unfold InR; omega) (fun c97 => ?_) (fun c97 => ?_)
              · refine wp_iload_n dX7_number_104 rfl ?_
                exact wp_iret dX7_number_105 rfl (by subst hV; first | (rw [if_pos (by omega)]; exact ⟨rfl, rfl⟩) | (rw [if_neg (by omega)]; exact ⟨rfl, rfl⟩))
              · refine wp_iconst dX7_number_100 ?_
                refine wp_goto 105 dX7_number_101 (by decide) ?_
                exact wp_iret dX7_number_105 rfl (by subst hV; first | (rw [if_pos (by omega)]; exact ⟨rfl, rfl⟩) | (rw [if_neg (by omega)]; exact ⟨rfl, rfl⟩))
            · refine wp_iload dX7_number_52 rfl ?_
              refine wp_bipush dX7_number_54 rfl ?_
              refine wp_icmple 62 dX7_number_56 (by decide) (by unfold InR; omega) (by unfold InR; omega) (fun c56 => ?_) (fun c56 => ?_)
              · have hd : 48 ≤ bt t j ∧ bt t j ≤ 57 := ⟨by omega, by omega⟩
                unfold nmF at hV
                rw [if_pos hd] at hV
                refine wp_iload_n dX7_number_62 rfl ?_
                refine wp_iload_n dX7_number_63 rfl ?_
                refine wp_icmpne 69 dX7_number_64 (by decide) (by unfold InR; omega) (by unfold InR; omega) (fun c64 => ?_) (fun c64 => ?_)
                · rw [if_neg (by omega)] at hV
                  refine wp_iload_n dX7_number_69 rfl ?_
                  refine wp_bipush dX7_number_70 rfl ?_
                  refine wp_imul dX7_number_72 ?_
                  refine wp_iload dX7_number_73 rfl ?_
                  refine wp_iadd dX7_number_75 ?_
                  refine wp_bipush dX7_number_76 rfl ?_
                  refine wp_isub dX7_number_78 ?_
                  refine wp_istore_n dX7_number_79 (by decide) ?_
                  refine wp_iinc dX7_number_80 rfl (by decide) ?_
                  refine wp_aload_n dX7_number_83 rfl ?_
                  refine wp_dup dX7_number_84 rfl ?_
                  refine wp_getI dX7_number_85 flX7_19 rfl rfl ?_
                  rw [hI_same]
                  refine wp_iconst dX7_number_88 ?_
                  refine wp_iadd dX7_number_89 ?_
                  refine wp_putI dX7_number_90 plX7_19 rfl rfl ?_
                  rw [sI_sI]
                  refine wp_goto 4 dX7_number_93 (by decide) ?_
                  refine wp_loc [(0, .ref (adr X 1)), (1, .int (iI ((m : Nat) : Int))), (2, .int (iI (v * 10 + bt t j - 48))), (3, .int (iI ((c + 1 : Nat) : Int)))] ⟨rfl, rfl, rfl, rfl, trivial⟩ ?_
                  exact ih (j + 1) (c + 1) _ (by omega) (by omega) hV
                · rw [if_pos (by omega)] at hV
                  refine wp_iconst dX7_number_67 ?_
                  exact wp_iret dX7_number_68 rfl (by subst hV; exact ⟨rfl, rfl⟩)
              · refine wp_goto 96 dX7_number_59 (by decide) ?_
                have hd : ¬ (48 ≤ bt t j ∧ bt t j ≤ 57) := by omega
                unfold nmF at hV
                rw [if_neg hd] at hV
                refine wp_iload_n dX7_number_96 rfl ?_
                refine wp_ifne 104 dX7_number_97 (by decide) (by unfold InR; omega) (fun c97 => ?_) (fun c97 => ?_)
                · refine wp_iload_n dX7_number_104 rfl ?_
                  exact wp_iret dX7_number_105 rfl (by subst hV; first | (rw [if_pos (by omega)]; exact ⟨rfl, rfl⟩) | (rw [if_neg (by omega)]; exact ⟨rfl, rfl⟩))
                · refine wp_iconst dX7_number_100 ?_
                  refine wp_goto 105 dX7_number_101 (by decide) ?_
                  exact wp_iret dX7_number_105 rfl (by subst hV; first | (rw [if_pos (by omega)]; exact ⟨rfl, rfl⟩) | (rw [if_neg (by omega)]; exact ⟨rfl, rfl⟩))
  refine wp_iconst dX7_number_0 ?_
  refine wp_istore_n dX7_number_1 (by decide) ?_
  refine wp_iconst dX7_number_2 ?_
  refine wp_istore_n dX7_number_3 (by decide) ?_
  have e0 : sI h 1 2 ((i : Nat) : Int) = h := sI_self hi
  have L1 := L (t.length - i) i 0 0 (by omega) (by omega) hV0
  rw [e0] at L1
  refine wp_loc [(0, .ref (adr X 1)), (1, .int (iI ((m : Nat) : Int))), (2, .int (iI 0)), (3, .int (iI ((0 : Nat) : Int)))] ⟨rfl, rfl, rfl, rfl, trivial⟩ ?_
  exact L1

