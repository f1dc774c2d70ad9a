/-! the reference: a CLAUSE of a WISH -/
abbrev ClV : Type := Nat ⊕ (Nat × Vl × Vl)
def pq (r : PC) : ClV := match r with
  | .inl e => .inl e
  | .inr (k, _, b, v) => .inr (k, b, v)
def qS (b : Vl) (r : PVr) : ClV := match r with
  | .inl e => .inl e
  | .inr (k, v) => .inr (k, b, v)
def qT (t : List Int) (r : PVr) : ClV := match r with
  | .inl e => .inl e
  | .inr (k, b) => if lk t k = 63 then qS b (pv (smP t 6 (sk t k + 1))) else .inl (sk t k)
def qU (t : List Int) (r : PVr) : ClV := match r with
  | .inl e => .inl e
  | .inr (k1, v1) => if lk t k1 = 61 ∨ lk t k1 = 60 ∨ lk t k1 = 62 then qT t (pv (cdP t 6 (some v1) k1)) else .inr (k1, fun _ => 1, v1)
def qL (t : List Int) (k : Nat) : ClV := if lk t k = 33 ∨ lk t k = 40 then qT t (pv (cdP t 6 none k)) else qU t (pv (smP t 6 k))
def qC (t : List Int) (i : Nat) : ClV := if lk t i = 121 then (if lk t (sk t i + 1) = 58 then qL t (sk t (sk t i + 1) + 1) else .inl (sk t (sk t i + 1))) else .inl (sk t i)
theorem pq_T (t : List Int) (z : Nat) (c0 : List Int) (r : PR) : pq (pcT t z c0 r) = qT t (pv r) := by
  cases r with
  | inl e => rw [pcT_l rfl]; rfl
  | inr w =>
    obtain ⟨k, c, b⟩ := w
    show _ = if lk t k = 63 then qS b (pv (smP t 6 (sk t k + 1))) else .inl (sk t k)
    by_cases q : lk t k = 63
    · rw [pcT_r rfl q, if_pos q]
      unfold pcT2
      cases smP t 6 (sk t k + 1) <;> rfl
    · rw [pcT_x rfl q, if_neg q]; rfl
theorem pq_l (t : List Int) (z i : Nat) : pq (pcl t z i) = qC t i := by
  unfold qC
  by_cases a1 : lk t i = 121
  · rw [if_pos a1]
    by_cases a2 : lk t (sk t i + 1) = 58
    · rw [if_pos a2, pcl_3 a1 a2]
      unfold pcl2 qL
      by_cases a3 : lk t (sk t (sk t i + 1) + 1) = 33 ∨ lk t (sk t (sk t i + 1) + 1) = 40
      · rw [if_pos a3, if_pos a3, pq_T]
      · rw [if_neg a3, if_neg a3]
        cases smP t 6 (sk t (sk t i + 1) + 1) with
        | inl e => rfl
        | inr w =>
          obtain ⟨k1, c1, v1⟩ := w
          show pq (if lk t k1 = 61 ∨ lk t k1 = 60 ∨ lk t k1 = 62 then pcT t z c1 (cdP t 6 (some v1) k1) else .inr (k1, c1 ++ [-59], fun _ => 1, v1)) = if lk t k1 = 61 ∨ lk t k1 = 60 ∨ lk t k1 = 62 then qT t (pv (cdP t 6 (some v1) k1)) else .inr (k1, fun _ => 1, v1)
          by_cases a4 : lk t k1 = 61 ∨ lk t k1 = 60 ∨ lk t k1 = 62
          · rw [if_pos a4, if_pos a4, pq_T]
          · rw [if_neg a4, if_neg a4]; rfl
    · rw [if_neg a2, pcl_2 a1 a2]; rfl
  · rw [if_neg a1, pcl_1 a1]; rfl
def SP2 (c j : Nat) : Prop := c = 47 ∧ (j = 10 ∨ j = 11 ∨ j = 12 ∨ j = 14 ∨ j = 17)
theorem Kp.s2 {h h' : Hp} (k : Kp SP h h') : Kp SP2 h h' := k.mono (fun c j q => ⟨q.1, by have := q.2; omega⟩)
theorem TXm.kp2 {h h' : Hp} {t : List Int} {b B : Nat} (x : TXm h t b B) (k : Kp SP2 h h') : TXm h' t b B := ⟨by unfold hR; rw [k.2]; exact x.1, x.2.1, by rw [k.1 47 8 (by unfold SP2; omega)]; exact x.2.2.1, by rw [k.1 47 9 (by unfold SP2; omega)]; exact x.2.2.2.1, fun j hj => by rw [k.1 b _ (by have := x.2.1; unfold SP2; omega)]; exact x.2.2.2.2 j hj⟩
theorem LTm.kp2 {h h' : Hp} {ρ : Int → Int} (l : LTm h ρ) (k : Kp SP2 h h') : LTm h' ρ := fun x h0 => by rw [k.1 51 _ (by unfold SP2; omega)]; exact l x h0
theorem ix_y {c : Int} : ixF c (sls 2) 0 ≠ -1 ↔ c = 121 := by
  show ixF c [121] 0 ≠ -1 ↔ _
  unfold ixF ixF
  repeat' split
  all_goals omega
theorem smV_end {t : List Int} (k : TOK t) {i q : Nat} {v : Vl} (hi : i ≤ t.length) (h : pv (smP t 6 i) = .inr (q, v)) : sk t q = q := by
  cases e : smP t 6 i with
  | inl x => rw [e] at h; cases h
  | inr z => obtain ⟨k2, c, v2⟩ := z; have e2 := smP_end k hi e; rw [e] at h; cases h; exact e2
def PMc (h : Hp) (ρ : Int → Int) (V : ClV) (rv : Option Value) (h' : Hp) : Prop := rv = none ∧ (∀ e, V = .inl e → hI h' 47 11 = e) ∧ (∀ k b v, V = .inr (k, b, v) → hI h' 47 11 = -1 ∧ hI h' 47 10 = k ∧ hI h' 47 12 = 0 ∧ (hI h 47 17 = 0 → b ρ ≠ 0 → hI h' 47 17 = 1 ∧ hI h' 47 14 = v ρ) ∧ (hI h 47 17 ≠ 0 ∨ b ρ = 0 → hI h' 47 17 = hI h 47 17 ∧ hI h' 47 14 = hI h 47 14)) ∧ Kp SP2 h h'

set_option maxRecDepth 20000 in
theorem S_X11_clause {X : Cx} {h : Hp} {t : List Int} {b B i : Nat} {ρ : Int → Int} (hp : PLm h t b B i (6 - ((6 : Nat) : Int)) ρ) (hlab : hI h 47 13 = 121) (hF : hI h 47 17 = 0 ∨ hI h 47 17 = 1) : Spec X mX11_clause 31 [.ref (adr X 47)] h (PMc h ρ (qC t i)) := by
  obtain ⟨tx, tk, hi, hl, hf, hd, hlt⟩ := hp
  have hp : PLm h t b B i (6 - ((6 : Nat) : Int)) ρ := ⟨tx, tk, hi, hl, hf, hd, hlt⟩
  have t160 := tk.1
  have lb := lk_b tk hl
  have sb := sk_b t hl
  obtain ⟨V, hV⟩ : ∃ V, V = qC t i := ⟨_, rfl⟩
  rw [← hV]
  unfold qC at hV
  refine spec_wp (Nat.le_of_ble_eq_true rfl) (by decide +kernel) ?_
  refine wp_loc [(0, .ref (adr X 47))] ⟨rfl, trivial⟩ ?_
  have KF : ∀ (h1 : Hp) (zb zv : Int) (e2 : Nat), hI h1 47 11 = (e2 : Int) → e2 ≤ t.length → Kp SP h h1 → V = .inl e2 → WP X mX11_clause 31 134 [(0, .ref (adr X 47)), (1, .int (iI (lk t i))), (2, .int (iI zb)), (3, .int (iI zv))] [] h1 (PMc h ρ V) := by
    intro h1 zb zv e2 hf1 he2 kp1 hV
    subst hV
    refine wp_aload_n dX11_clause_134 rfl ?_
    refine wp_getI dX11_clause_135 flX11_131 rfl rfl ?_
    rw [hf1]
    refine wp_iconst dX11_clause_138 ?_
    refine wp_icmpne 161 dX11_clause_139 (by decide) (by unfold InR; omega) (by unfold InR; omega) (fun c139 => ?_) (fun c139 => ?_)
    · exact wp_ret dX11_clause_161 rfl (⟨rfl, fun e9 q9 => (by cases q9; exact hf1), fun k9 b9 v9 e9 => (by cases e9), kp1.s2⟩)
    · exact absurd c139 (by omega)
  have KR : ∀ (h1 : Hp) (zb zv : Int) (k : Nat) (bv vv : Vl), lk t i = 121 → hI h1 47 11 = -1 → hI h1 47 10 = (k : Int) → hI h1 47 12 = 0 → Kp SP h h1 → InR zv → (zb = 0 ∨ zb = 1) → zb = bv ρ → zv = vv ρ → V = .inr (k, bv, vv) → WP X mX11_clause 31 134 [(0, .ref (adr X 47)), (1, .int (iI (lk t i))), (2, .int (iI zb)), (3, .int (iI zv))] [] h1 (PMc h ρ V) := by
    intro h1 zb zv k bv vv h121 hf1 hk1 hd1 kp1 hzv hzb ezb ezv hV
    subst hV
    have f17 : hI h1 47 17 = hI h 47 17 := kp1.1 47 17 (by unfold SP; omega)
    have f14 : hI h1 47 14 = hI h 47 14 := kp1.1 47 14 (by unfold SP; omega)
    have f13 : hI h1 47 13 = 121 := by rw [kp1.1 47 13 (by unfold SP; omega)]; exact hlab
    refine wp_aload_n dX11_clause_134 rfl ?_
    refine wp_getI dX11_clause_135 flX11_131 rfl rfl ?_
    rw [hf1]
    refine wp_iconst dX11_clause_138 ?_
    refine wp_icmpne 161 dX11_clause_139 (by decide) (by first | assumption | (unfold InR; omega)) (by first | assumption | (unfold InR; omega)) (fun c139 => ?_) (fun c139 => ?_)
    · exact absurd rfl c139
    · refine wp_aload_n dX11_clause_142 rfl ?_
      refine wp_getI dX11_clause_143 flX11_199 rfl rfl ?_
      rw [f17]
      refine wp_ifne 161 dX11_clause_146 (by decide) (by first | assumption | (unfold InR; omega)) (fun c146 => ?_) (fun c146 => ?_)
      · exact wp_ret dX11_clause_161 rfl (⟨rfl, fun e9 q9 => (by cases q9), fun k9 b9 v9 e9 => (by cases e9; exact ⟨hf1, hk1, hd1, fun a1 a2 => absurd a1 c146, fun _ => ⟨f17, f14⟩⟩), kp1.s2⟩)
      · refine wp_iload_n dX11_clause_149 rfl ?_
        refine wp_aload_n dX11_clause_150 rfl ?_
        refine wp_getI dX11_clause_151 flX11_203 rfl rfl ?_
        rw [f13]
        refine wp_icmpne 161 dX11_clause_154 (by decide) (by first | assumption | (unfold InR; omega)) (by first | assumption | (unfold InR; omega)) (fun c154 => ?_) (fun c154 => ?_)
        · exact absurd h121 c154
        · refine wp_iload_n dX11_clause_157 rfl ?_
          refine wp_ifne 162 dX11_clause_158 (by decide) (by first | assumption | (unfold InR; omega)) (fun c158 => ?_) (fun c158 => ?_)
          · refine wp_aload_n dX11_clause_162 rfl ?_
            refine wp_iconst dX11_clause_163 ?_
            refine wp_putZ dX11_clause_164 plX11_199 rfl rfl (by omega) ?_
            refine wp_aload_n dX11_clause_167 rfl ?_
            refine wp_iload_n dX11_clause_168 rfl ?_
            refine wp_putI dX11_clause_169 plX11_206 rfl rfl ?_
            exact wp_ret dX11_clause_172 rfl (⟨rfl, fun e9 q9 => (by cases q9), fun k9 b9 v9 e9 => (by cases e9; exact ⟨by rw [hI_sI, if_neg (by omega), hI_sI, if_neg (by omega)]; exact hf1, by rw [hI_sI, if_neg (by omega), hI_sI, if_neg (by omega)]; exact hk1, by rw [hI_sI, if_neg (by omega), hI_sI, if_neg (by omega)]; exact hd1, fun _ _ => ⟨by rw [hI_sI, if_neg (by omega), hI_same], by rw [hI_same]; exact ezv⟩, fun q => q.elim (fun q => absurd c146 q) (fun q => absurd (ezb.trans q) c158)⟩), (kp1.s2.tr (Kp.sI (by unfold SP2; omega))).tr (Kp.sI (by unfold SP2; omega))⟩)
          · exact wp_ret dX11_clause_161 rfl (⟨rfl, fun e9 q9 => (by cases q9), fun k9 b9 v9 e9 => (by cases e9; exact ⟨hf1, hk1, hd1, fun a1 a2 => absurd (ezb.symm.trans c158) a2, fun _ => ⟨f17, f14⟩⟩), kp1.s2⟩)
  have K71 : ∀ (h2 : Hp) (z : Int) (f : Option Vl) (k : Nat), lk t i = 121 → k ≤ t.length → (z = 0 ∨ z = 1) → (∀ k2 v, pv (cdP t 6 f k) = .inr (k2, v) → z = v ρ) → (∀ e, pv (cdP t 6 f k) = .inl e → hI h2 47 11 = (e : Int)) → (∀ k2 v, pv (cdP t 6 f k) = .inr (k2, v) → hI h2 47 11 = -1 ∧ hI h2 47 10 = (k2 : Int) ∧ hI h2 47 12 = 0) → Kp SP h h2 → V = qT t (pv (cdP t 6 f k)) → WP X mX11_clause 31 71 [(0, .ref (adr X 47)), (1, .int (iI (lk t i))), (2, .int (iI z))] [] h2 (PMc h ρ V) := by
    intro h2 z f k h121 hk hz hz2 he2 hr2 kp2 hV
    have ppC := cdP_pp tk 6 f hk
    rcases pv_cs (pv (cdP t 6 f k)) with ⟨e2, hw⟩ | ⟨k2, v2, hw⟩
    · have he2 := he2 e2 hw
      have eb := pvE ppC hw
      rw [hw] at hV
      have hV : V = .inl e2 := hV
      subst hV
      refine wp_aload_n dX11_clause_71 rfl ?_
      refine wp_bipush dX11_clause_72 rfl ?_
      refine wp_callV dX11_clause_74 mlX11_166 mvX11_takes (S_takes2 (by omega) (by rw [he2]; unfold InR; omega)) rfl rfl (by omega) (by decide) rfl rfl rfl (Nat.le_of_ble_eq_true rfl) ?_
      rintro rv h3 ⟨rfl, rfl⟩
      refine wp_ifne 81 dX11_clause_77 (by decide) (by unfold InR; omega) (fun c77 => ?_) (fun c77 => ?_)
      · exact absurd rfl c77
      · exact wp_ret dX11_clause_80 rfl (⟨rfl, fun e9 q9 => (by cases q9; exact he2), fun k9 b9 v9 e9 => (by cases e9), kp2.s2⟩)
    · have hr2 := hr2 k2 v2 hw
      have eb := pvP ppC hw
      have tx2 := tx.kp kp2
      have lb2 := lk_b tk eb.2
      rw [hw] at hV
      have hV : V = if lk t k2 = 63 then qS v2 (pv (smP t 6 (sk t k2 + 1))) else .inl (sk t k2) := hV
      refine wp_aload_n dX11_clause_71 rfl ?_
      refine wp_bipush dX11_clause_72 rfl ?_
      refine wp_callV dX11_clause_74 mlX11_166 mvX11_takes (S_X11_takes tx2 tk hr2.2.1 eb.2 hr2.1 (by unfold InR; omega)) rfl rfl (by omega) (by decide) rfl rfl rfl (Nat.le_of_ble_eq_true rfl) ?_
      rintro rv h3 ⟨rfl, rfl⟩
      refine wp_ifneb 81 dX11_clause_77 (by decide) (fun c77 => ?_) (fun c77 => ?_)
      · rw [if_pos c77] at hV
        rw [if_pos c77, show ((sk t k2 : Nat) : Int) + 1 = ((sk t k2 + 1 : Nat) : Int) by omega]
        have lin2 := lk_in tk eb.2 (by omega : lk t k2 ≠ -1)
        refine wp_aload_n dX11_clause_81 rfl ?_
        refine wp_callV dX11_clause_82 mlX11_163 mvX11_sum (S_X11_sum 6 (by decide) (sI h2 47 10 ((sk t k2 + 1 : Nat) : Int)) t b B (sk t k2 + 1) ρ ⟨tx2.kp kp10, tk, hI_same, by omega, by rw [hI_10 (by decide)]; exact hr2.1, by rw [hI_10 (by decide), hr2.2.2]; rfl, (hlt.kp kp2).kp kp10⟩) rfl rfl (by omega) (by decide) rfl rfl rfl (Nat.le_of_ble_eq_true rfl) ?_
        rintro rv h3 ⟨⟨zv, rfl, hzv, hzv3⟩, he3, hr3, kp3a⟩
        have kp3 := (kp2.tr kp10).tr kp3a
        have ppS := smP_pp tk 6 (sk t k2 + 1) (by omega)
        refine wp_istore_n dX11_clause_85 (by decide) ?_
        refine wp_goto 134 dX11_clause_86 (by decide) ?_
        refine wp_loc [(0, .ref (adr X 47)), (1, .int (iI (lk t i))), (2, .int (iI z)), (3, .int (iI zv))] ⟨rfl, rfl, rfl, rfl, trivial⟩ ?_
        rcases pv_cs (pv (smP t 6 (sk t k2 + 1))) with ⟨e3, hw3⟩ | ⟨k3, v3, hw3⟩
        · exact KF h3 z zv e3 (he3 e3 hw3) (pvE ppS hw3) kp3 (by rw [hV, hw3]; rfl)
        · have hr3 := hr3 k3 v3 hw3
          exact KR h3 z zv k3 v2 v3 h121 hr3.1 hr3.2.1 (by rw [hr3.2.2, hI_10 (by decide)]; exact hr2.2.2) kp3 hzv hz (hz2 k2 v2 hw) (hzv3 k3 v3 hw3) (by rw [hV, hw3]; rfl)
      · exact wp_ret dX11_clause_80 rfl (by
        rw [if_neg c77] at hV
        rw [if_neg c77]
        subst hV
        exact ⟨rfl, fun e9 q9 => (by cases q9; exact hI_same), fun k9 b9 v9 e9 => (by cases e9), ((kp2.tr kp10).tr kp11).s2⟩)
  have K119 : ∀ (h2 : Hp) (z : Int) (f : Option Vl) (k : Nat), lk t i = 121 → k ≤ t.length → (z = 0 ∨ z = 1) → (∀ k2 v, pv (cdP t 6 f k) = .inr (k2, v) → z = v ρ) → (∀ e, pv (cdP t 6 f k) = .inl e → hI h2 47 11 = (e : Int)) → (∀ k2 v, pv (cdP t 6 f k) = .inr (k2, v) → hI h2 47 11 = -1 ∧ hI h2 47 10 = (k2 : Int) ∧ hI h2 47 12 = 0) → Kp SP h h2 → V = qT t (pv (cdP t 6 f k)) → WP X mX11_clause 31 119 [(0, .ref (adr X 47)), (1, .int (iI (lk t i))), (2, .int (iI z))] [] h2 (PMc h ρ V) := by
    intro h2 z f k h121 hk hz hz2 he2 hr2 kp2 hV
    have ppC := cdP_pp tk 6 f hk
    rcases pv_cs (pv (cdP t 6 f k)) with ⟨e2, hw⟩ | ⟨k2, v2, hw⟩
    · have he2 := he2 e2 hw
      have eb := pvE ppC hw
      rw [hw] at hV
      have hV : V = .inl e2 := hV
      subst hV
      refine wp_aload_n dX11_clause_119 rfl ?_
      refine wp_bipush dX11_clause_120 rfl ?_
      refine wp_callV dX11_clause_122 mlX11_166 mvX11_takes (S_takes2 (by omega) (by rw [he2]; unfold InR; omega)) rfl rfl (by omega) (by decide) rfl rfl rfl (Nat.le_of_ble_eq_true rfl) ?_
      rintro rv h3 ⟨rfl, rfl⟩
      refine wp_ifne 129 dX11_clause_125 (by decide) (by unfold InR; omega) (fun c125 => ?_) (fun c125 => ?_)
      · exact absurd rfl c125
      · exact wp_ret dX11_clause_128 rfl (⟨rfl, fun e9 q9 => (by cases q9; exact he2), fun k9 b9 v9 e9 => (by cases e9), kp2.s2⟩)
    · have hr2 := hr2 k2 v2 hw
      have eb := pvP ppC hw
      have tx2 := tx.kp kp2
      have lb2 := lk_b tk eb.2
      rw [hw] at hV
      have hV : V = if lk t k2 = 63 then qS v2 (pv (smP t 6 (sk t k2 + 1))) else .inl (sk t k2) := hV
      refine wp_aload_n dX11_clause_119 rfl ?_
      refine wp_bipush dX11_clause_120 rfl ?_
      refine wp_callV dX11_clause_122 mlX11_166 mvX11_takes (S_X11_takes tx2 tk hr2.2.1 eb.2 hr2.1 (by unfold InR; omega)) rfl rfl (by omega) (by decide) rfl rfl rfl (Nat.le_of_ble_eq_true rfl) ?_
      rintro rv h3 ⟨rfl, rfl⟩
      refine wp_ifneb 129 dX11_clause_125 (by decide) (fun c125 => ?_) (fun c125 => ?_)
      · rw [if_pos c125] at hV
        rw [if_pos c125, show ((sk t k2 : Nat) : Int) + 1 = ((sk t k2 + 1 : Nat) : Int) by omega]
        have lin2 := lk_in tk eb.2 (by omega : lk t k2 ≠ -1)
        refine wp_aload_n dX11_clause_129 rfl ?_
        refine wp_callV dX11_clause_130 mlX11_163 mvX11_sum (S_X11_sum 6 (by decide) (sI h2 47 10 ((sk t k2 + 1 : Nat) : Int)) t b B (sk t k2 + 1) ρ ⟨tx2.kp kp10, tk, hI_same, by omega, by rw [hI_10 (by decide)]; exact hr2.1, by rw [hI_10 (by decide), hr2.2.2]; rfl, (hlt.kp kp2).kp kp10⟩) rfl rfl (by omega) (by decide) rfl rfl rfl (Nat.le_of_ble_eq_true rfl) ?_
        rintro rv h3 ⟨⟨zv, rfl, hzv, hzv3⟩, he3, hr3, kp3a⟩
        have kp3 := (kp2.tr kp10).tr kp3a
        have ppS := smP_pp tk 6 (sk t k2 + 1) (by omega)
        refine wp_istore_n dX11_clause_133 (by decide) ?_
        refine wp_loc [(0, .ref (adr X 47)), (1, .int (iI (lk t i))), (2, .int (iI z)), (3, .int (iI zv))] ⟨rfl, rfl, rfl, rfl, trivial⟩ ?_
        rcases pv_cs (pv (smP t 6 (sk t k2 + 1))) with ⟨e3, hw3⟩ | ⟨k3, v3, hw3⟩
        · exact KF h3 z zv e3 (he3 e3 hw3) (pvE ppS hw3) kp3 (by rw [hV, hw3]; rfl)
        · have hr3 := hr3 k3 v3 hw3
          exact KR h3 z zv k3 v2 v3 h121 hr3.1 hr3.2.1 (by rw [hr3.2.2, hI_10 (by decide)]; exact hr2.2.2) kp3 hzv hz (hz2 k2 v2 hw) (hzv3 k3 v3 hw3) (by rw [hV, hw3]; rfl)
      · exact wp_ret dX11_clause_128 rfl (by
        rw [if_neg c125] at hV
        rw [if_neg c125]
        subst hV
        exact ⟨rfl, fun e9 q9 => (by cases q9; exact hI_same), fun k9 b9 v9 e9 => (by cases e9), ((kp2.tr kp10).tr kp11).s2⟩)
  refine wp_aload_n dX11_clause_0 rfl ?_
  refine wp_callV dX11_clause_1 mlX11_141 mvX11_look (S_X11_look tx tk hi hl) rfl rfl (by omega) (by decide) rfl rfl rfl (Nat.le_of_ble_eq_true rfl) ?_
  rintro rv h1 ⟨rfl, rfl⟩
  refine wp_istore_n dX11_clause_4 (by decide) ?_
  refine wp_ldcS (RX11, 26, "y", 112) dX11_clause_5 (by unfold srL; simp) rfl rfl ?_
  refine wp_iload_n dX11_clause_7 rfl ?_
  refine wp_callSp dX11_clause_8 mlX11_156 msX11_isAmong (S_X11_isAmong (s := 2) (by decide) (by unfold InR; omega)) rfl rfl (by omega) (by decide) (Nat.le_of_ble_eq_true rfl) ?_
  refine wp_ifneb 20 dX11_clause_11 (by decide) (fun c11 => ?_) (fun c11 => ?_)
  · rw [ix_y] at c11
    have h121 := c11
    rw [if_pos c11] at hV
    have lin := lk_in tk hl (by omega : lk t i ≠ -1)
    have lbi := lk_b tk (i := sk t i + 1) (by omega)
    have sbi := sk_b t (i := sk t i + 1) (by omega)
    refine wp_aload_n dX11_clause_20 rfl ?_
    refine wp_dup dX11_clause_21 rfl ?_
    refine wp_getI dX11_clause_22 flX11_122 rfl rfl ?_
    rw [hI_same]
    refine wp_iconst dX11_clause_25 ?_
    refine wp_iadd dX11_clause_26 ?_
    refine wp_putI dX11_clause_27 plX11_122 rfl rfl ?_
    rw [sI_sI, show ((sk t i : Nat) : Int) + 1 = ((sk t i + 1 : Nat) : Int) by omega]
    refine wp_aload_n dX11_clause_30 rfl ?_
    refine wp_bipush dX11_clause_31 rfl ?_
    refine wp_callV dX11_clause_33 mlX11_166 mvX11_takes (S_X11_takes (i := sk t i + 1) (tx.kp kp10) tk hI_same (by omega) (by rw [hI_10 (by decide)]; exact hf) (by unfold InR; omega)) rfl rfl (by omega) (by decide) rfl rfl rfl (Nat.le_of_ble_eq_true rfl) ?_
    rintro rv h3 ⟨rfl, rfl⟩
    refine wp_ifneb 40 dX11_clause_36 (by decide) (fun c36 => ?_) (fun c36 => ?_)
    · rw [if_pos c36] at hV
      have lin2 := lk_in tk (i := sk t i + 1) (by omega) (by omega)
      rw [if_pos c36, sI_sI, show ((sk t (sk t i + 1) : Nat) : Int) + 1 = ((sk t (sk t i + 1) + 1 : Nat) : Int) by omega]
      obtain ⟨k0, ek0⟩ : ∃ k0, k0 = sk t (sk t i + 1) + 1 := ⟨_, rfl⟩
      rw [← ek0] at hV ⊢
      have hk0 : k0 ≤ t.length := by omega
      have lb0 := lk_b tk hk0
      have sk0 := sk_b t hk0
      unfold qL at hV
      refine wp_iconst dX11_clause_40 ?_
      refine wp_istore_n dX11_clause_41 (by decide) ?_
      refine wp_iconst dX11_clause_42 ?_
      refine wp_istore_n dX11_clause_43 (by decide) ?_
      refine wp_aload_n dX11_clause_44 rfl ?_
      refine wp_callV dX11_clause_45 mlX11_141 mvX11_look (S_X11_look (i := k0) (tx.kp kp10) tk hI_same hk0) rfl rfl (by omega) (by decide) rfl rfl rfl (Nat.le_of_ble_eq_true rfl) ?_
      rintro rv h9 ⟨rfl, rfl⟩
      rw [sI_sI]
      refine wp_istore dX11_clause_48 (by decide) ?_
      refine wp_iload dX11_clause_50 rfl ?_
      refine wp_bipush dX11_clause_52 rfl ?_
      refine wp_icmpeq 64 dX11_clause_54 (by decide) (by unfold InR; omega) (by unfold InR; omega) (fun c54 => ?_) (fun c54 => ?_)
      · refine wp_aload_n dX11_clause_64 rfl ?_
        refine wp_iconst dX11_clause_65 ?_
        refine wp_iconst dX11_clause_66 ?_
        refine wp_callV dX11_clause_67 mlX11_189 mvX11_condition ((S_X11_uc 6 (by decide)).2 (sI h 47 10 ((sk t k0 : Nat) : Int)) t b B (sk t k0) ρ none 0 (hp.at sk0.2) inR_0 (fun u q => by cases q)) rfl rfl (by omega) (by decide) rfl rfl rfl (Nat.le_of_ble_eq_true rfl) ?_
        rintro rv h2 ⟨⟨z, rfl, hz, hz2⟩, he2, hr2, kp2a⟩
        rw [cdP_sk t 6 none hk0] at hz2 he2 hr2
        refine wp_istore_n dX11_clause_70 (by decide) ?_
        rw [if_pos (by omega)] at hV
        refine wp_loc [(0, .ref (adr X 47)), (1, .int (iI (lk t i))), (2, .int (iI z))] ⟨rfl, rfl, rfl, trivial⟩ ?_
        exact K71 h2 z none k0 h121 hk0 hz hz2 he2 (fun k2 v2 q => by have w := hr2 k2 v2 q; exact ⟨w.1, w.2.1, by rw [w.2.2, hI_10 (by decide), hd]; rfl⟩) (kp10.tr kp2a) hV
      · refine wp_iload dX11_clause_57 rfl ?_
        refine wp_bipush dX11_clause_59 rfl ?_
        refine wp_icmpne 89 dX11_clause_61 (by decide) (by unfold InR; omega) (by unfold InR; omega) (fun c61 => ?_) (fun c61 => ?_)
        · refine wp_aload_n dX11_clause_89 rfl ?_
          refine wp_callV dX11_clause_90 mlX11_163 mvX11_sum (S_X11_sum 6 (by decide) (sI h 47 10 ((sk t k0 : Nat) : Int)) t b B (sk t k0) ρ (hp.at sk0.2)) rfl rfl (by omega) (by decide) rfl rfl rfl (Nat.le_of_ble_eq_true rfl) ?_
          rintro rv h1 ⟨⟨zv, rfl, hzv, hzv1⟩, he1, hr1, kp1a⟩
          rw [smP_sk t 6 hk0] at hzv1 he1 hr1
          have kp1 := kp10.tr kp1a
          have ppS := smP_pp tk 6 k0 hk0
          rw [if_neg (by omega)] at hV
          rcases pv_cs (pv (smP t 6 k0)) with ⟨e2, hw⟩ | ⟨k1, v1, hw⟩
          · have he1 := he1 e2 hw
            have eb := pvE ppS hw
            rw [hw] at hV
            have hV : V = .inl e2 := hV
            refine wp_istore_n dX11_clause_93 (by decide) ?_
            refine wp_aload_n dX11_clause_94 rfl ?_
            refine wp_getI dX11_clause_95 flX11_131 rfl rfl ?_
            rw [he1]
            refine wp_iconst dX11_clause_98 ?_
            refine wp_icmpne 134 dX11_clause_99 (by decide) (by unfold InR; omega) (by unfold InR; omega) (fun c99 => ?_) (fun c99 => ?_)
            · refine wp_loc [(0, .ref (adr X 47)), (1, .int (iI (lk t i))), (2, .int (iI 1)), (3, .int (iI zv))] ⟨rfl, rfl, rfl, rfl, trivial⟩ ?_
              exact KF h1 1 zv e2 he1 eb kp1 hV
            · exact absurd c99 (by omega)
          · have hr1 := hr1 k1 v1 hw
            have eb := pvP ppS hw
            have lb1 := lk_b tk eb.2
            have pe := smV_end tk hk0 hw
            have hd1 : hI h1 47 12 = 0 := by rw [hr1.2.2, hI_10 (by decide), hd]; rfl
            rw [hw] at hV
            have hV : V = if lk t k1 = 61 ∨ lk t k1 = 60 ∨ lk t k1 = 62 then qT t (pv (cdP t 6 (some v1) k1)) else .inr (k1, fun _ => 1, v1) := hV
            refine wp_istore_n dX11_clause_93 (by decide) ?_
            refine wp_aload_n dX11_clause_94 rfl ?_
            refine wp_getI dX11_clause_95 flX11_131 rfl rfl ?_
            rw [hr1.1]
            refine wp_iconst dX11_clause_98 ?_
            refine wp_icmpne 134 dX11_clause_99 (by decide) (by unfold InR; omega) (by unfold InR; omega) (fun c99 => ?_) (fun c99 => ?_)
            · exact absurd rfl c99
            · refine wp_aload_n dX11_clause_102 rfl ?_
              refine wp_callV dX11_clause_103 mlX11_141 mvX11_look (S_X11_look (i := k1) (tx.kp kp1) tk hr1.2.1 eb.2) rfl rfl (by omega) (by decide) rfl rfl rfl (Nat.le_of_ble_eq_true rfl) ?_
              rintro rv h9 ⟨rfl, rfl⟩
              rw [pe]
              refine wp_callSp dX11_clause_106 mlX11_183 msX11_isSign (S_X11_isSign (by unfold InR; omega)) rfl rfl (by omega) (by decide) (Nat.le_of_ble_eq_true rfl) ?_
              refine wp_ifeqb 134 dX11_clause_109 (by decide) (fun c109 => ?_) (fun c109 => ?_)
              · rw [if_neg c109] at hV
                refine wp_loc [(0, .ref (adr X 47)), (1, .int (iI (lk t i))), (2, .int (iI 1)), (3, .int (iI zv))] ⟨rfl, rfl, rfl, rfl, trivial⟩ ?_
                exact KR (sI h1 47 10 ((k1 : Nat) : Int)) 1 zv k1 (fun _ => 1) v1 h121 (by rw [hI_10 (by decide)]; exact hr1.1) hI_same (by rw [hI_10 (by decide)]; exact hd1) (kp1.tr kp10) hzv (by omega) rfl (hzv1 k1 v1 hw) hV
              · refine wp_aload_n dX11_clause_112 rfl ?_
                refine wp_iconst dX11_clause_113 ?_
                refine wp_iload_n dX11_clause_114 rfl ?_
                refine wp_callV dX11_clause_115 mlX11_189 mvX11_condition ((S_X11_uc 6 (by decide)).2 (sI h1 47 10 ((k1 : Nat) : Int)) t b B k1 ρ (some v1) zv ⟨(tx.kp kp1).kp kp10, tk, hI_same, eb.2, by rw [hI_10 (by decide)]; exact hr1.1, by rw [hI_10 (by decide), hd1]; rfl, (hlt.kp kp1).kp kp10⟩ hzv (fun u q => by cases q; exact hzv1 k1 v1 hw)) rfl rfl (by omega) (by decide) rfl rfl rfl (Nat.le_of_ble_eq_true rfl) ?_
                rintro rv h2 ⟨⟨z, rfl, hz, hz2⟩, he2, hr2, kp2a⟩
                refine wp_istore_n dX11_clause_118 (by decide) ?_
                rw [if_pos c109] at hV
                refine wp_loc [(0, .ref (adr X 47)), (1, .int (iI (lk t i))), (2, .int (iI z))] ⟨rfl, rfl, rfl, trivial⟩ ?_
                exact K119 h2 z (some v1) k1 h121 eb.2 hz hz2 he2 (fun k2 v2 q => by have w := hr2 k2 v2 q; exact ⟨w.1, w.2.1, by rw [w.2.2, hI_10 (by decide)]; exact hd1⟩) ((kp1.tr kp10).tr kp2a) hV
        · refine wp_aload_n dX11_clause_64 rfl ?_
          refine wp_iconst dX11_clause_65 ?_
          refine wp_iconst dX11_clause_66 ?_
          refine wp_callV dX11_clause_67 mlX11_189 mvX11_condition ((S_X11_uc 6 (by decide)).2 (sI h 47 10 ((sk t k0 : Nat) : Int)) t b B (sk t k0) ρ none 0 (hp.at sk0.2) inR_0 (fun u q => by cases q)) rfl rfl (by omega) (by decide) rfl rfl rfl (Nat.le_of_ble_eq_true rfl) ?_
          rintro rv h2 ⟨⟨z, rfl, hz, hz2⟩, he2, hr2, kp2a⟩
          rw [cdP_sk t 6 none hk0] at hz2 he2 hr2
          refine wp_istore_n dX11_clause_70 (by decide) ?_
          rw [if_pos (by omega)] at hV
          refine wp_loc [(0, .ref (adr X 47)), (1, .int (iI (lk t i))), (2, .int (iI z))] ⟨rfl, rfl, rfl, trivial⟩ ?_
          exact K71 h2 z none k0 h121 hk0 hz hz2 he2 (fun k2 v2 q => by have w := hr2 k2 v2 q; exact ⟨w.1, w.2.1, by rw [w.2.2, hI_10 (by decide), hd]; rfl⟩) (kp10.tr kp2a) hV
    · exact wp_ret dX11_clause_39 rfl (by
  rw [if_neg c36] at hV
  rw [if_neg c36]
  subst hV
  exact ⟨rfl, fun e9 q9 => (by cases q9; exact hI_same), fun k9 b9 v9 e9 => (by cases e9), ((kp10.tr kp10).tr kp11).s2⟩)
  · rw [ix_y] at c11
    rw [if_neg c11] at hV
    refine wp_aload_n dX11_clause_14 rfl ?_
    refine wp_callV dX11_clause_15 mlX11_137 mvX11_fails (S_X11_fails (by rw [hI_10 (by decide)]; exact hf)) rfl rfl (by omega) (by decide) rfl rfl rfl (Nat.le_of_ble_eq_true rfl) ?_
    rintro rv h2 ⟨rfl, rfl⟩
    rw [hI_same]
    refine wp_pop dX11_clause_18 rfl ?_
    exact wp_ret dX11_clause_19 rfl (by
  subst hV
  exact ⟨rfl, fun e9 q9 => (by cases q9; exact hI_same), fun k9 b9 v9 e9 => (by cases e9), (kp10.tr kp11).s2⟩)

