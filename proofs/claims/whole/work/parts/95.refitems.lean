/-! the reference: items of a GARDEN -/
def itQ (t L : List Int) (lo up : Int → Int) (n : Nat) (d : Int) (v : Int → Int) (x : Int) (r : Nat ⊕ (Nat × Int)) : Nat ⊕ (Nat × (Int → Int)) := match r with
  | .inl e => .inl e
  | .inr (k, y) => itF t L lo up n (iOr d (iShl 1 x)) (upv v x y) k
theorem it_s (t L : List Int) (lo up : Int → Int) (n : Nat) (d : Int) (v : Int → Int) (i : Nat) : itF t L lo up (n + 1) d v i = if ixF (lk t i) L 0 = -1 then .inr (sk t i, v) else if iAnd (iShr d (ixF (lk t i) L 0)) 1 ≠ 0 then .inl (sk t i) else itQ t L lo up n d v (ixF (lk t i) L 0) (nuR (lo (ixF (lk t i) L 0)) (up (ixF (lk t i) L 0)) (nm t 2 (sk t (sk t i + 1)))) := by
  rw [itF]
  by_cases a : ixF (lk t i) L 0 = -1
  · rw [if_pos a, if_pos a]
  · rw [if_neg a, if_neg a]
    by_cases a2 : iAnd (iShr d (ixF (lk t i) L 0)) 1 ≠ 0
    · rw [if_pos a2, if_pos a2]
    · rw [if_neg a2, if_neg a2]
      cases nm t 2 (sk t (sk t i + 1)) with
      | inl e => rfl
      | inr z =>
        obtain ⟨k, y⟩ := z
        by_cases a3 : y < lo (ixF (lk t i) L 0) ∨ up (ixF (lk t i) L 0) < y
        · have e : nuR (lo (ixF (lk t i) L 0)) (up (ixF (lk t i) L 0)) (.inr (k, y)) = .inl (k - 1) := if_pos a3
          rw [e]
          exact if_pos a3
        · have e : nuR (lo (ixF (lk t i) L 0)) (up (ixF (lk t i) L 0)) (.inr (k, y)) = .inr (k, y) := if_neg a3
          rw [e]
          exact if_neg a3
theorem nuR_r {lo hi : Int} {r : Nat ⊕ (Nat × Int)} {k : Nat} {y : Int} (h : nuR lo hi r = .inr (k, y)) : r = .inr (k, y) ∧ lo ≤ y ∧ y ≤ hi := by
  cases r with
  | inl e => cases h
  | inr z =>
    obtain ⟨k2, y2⟩ := z
    have e : (if y2 < lo ∨ hi < y2 then Sum.inl (k2 - 1) else Sum.inr (k2, y2)) = (Sum.inr (k, y) : Nat ⊕ (Nat × Int)) := h
    by_cases a : y2 < lo ∨ hi < y2
    · rw [if_pos a] at e; cases e
    · rw [if_neg a] at e; cases e; exact ⟨rfl, by omega⟩
theorem nuR_l {t : List Int} (k : TOK t) {i : Nat} (hi : i ≤ t.length) {lo up : Int} {e : Nat} (h : nuR lo up (nm t 2 i) = .inl e) : e ≤ t.length := by
  cases q : nm t 2 i with
  | inl e2 => rw [q] at h; cases h; exact (nml k (by decide) hi q).2
  | inr z =>
    obtain ⟨k2, y2⟩ := z
    have hr := nmr k (by decide) hi q
    rw [q] at h
    have e3 : (if y2 < lo ∨ up < y2 then Sum.inl (k2 - 1) else Sum.inr (k2, y2)) = (Sum.inl e : Nat ⊕ (Nat × Int)) := h
    by_cases a : y2 < lo ∨ up < y2
    · rw [if_pos a] at e3; cases e3; omega
    · rw [if_neg a] at e3; cases e3
def pcm (d : Int) : Int := iAnd (iShr d 0) 1 + iAnd (iShr d 1) 1 + iAnd (iShr d 2) 1 + iAnd (iShr d 3) 1 + iAnd (iShr d 4) 1
def mxm (s : Nat) : Int := if s = 0 then 32 else 4
theorem pcm_0 : ∀ d : Fin 32, pcm ((d : Nat) : Int) ≤ 5 := by decide +kernel
theorem pcm_1 : ∀ d : Fin 4, pcm ((d : Nat) : Int) ≤ 2 := by decide +kernel
theorem pcm_s0 : ∀ d : Fin 32, ∀ x : Fin 5, iAnd (iShr ((d : Nat) : Int) ((x : Nat) : Int)) 1 = 0 → pcm (iOr ((d : Nat) : Int) (iShl 1 ((x : Nat) : Int))) = pcm ((d : Nat) : Int) + 1 ∧ 0 ≤ iOr ((d : Nat) : Int) (iShl 1 ((x : Nat) : Int)) ∧ iOr ((d : Nat) : Int) (iShl 1 ((x : Nat) : Int)) < 32 := by decide +kernel
theorem pcm_s1 : ∀ d : Fin 4, ∀ x : Fin 2, iAnd (iShr ((d : Nat) : Int) ((x : Nat) : Int)) 1 = 0 → pcm (iOr ((d : Nat) : Int) (iShl 1 ((x : Nat) : Int))) = pcm ((d : Nat) : Int) + 1 ∧ 0 ≤ iOr ((d : Nat) : Int) (iShl 1 ((x : Nat) : Int)) ∧ iOr ((d : Nat) : Int) (iShl 1 ((x : Nat) : Int)) < 4 := by decide +kernel
theorem pcm_b {s : Nat} (hs : s < 2) {d : Int} (hd : 0 ≤ d ∧ d < mxm s) : pcm d ≤ sln s := by
  obtain ⟨k, rfl⟩ : ∃ k : Nat, d = k := ⟨d.toNat, by omega⟩
  rcases (show s = 0 ∨ s = 1 by omega) with rfl | rfl
  · have h : k < 32 := by have : mxm 0 = 32 := rfl; omega
    exact pcm_0 ⟨k, h⟩
  · have h : k < 4 := by have : mxm 1 = 4 := rfl; omega
    exact pcm_1 ⟨k, h⟩
theorem pcm_st {s : Nat} (hs : s < 2) {d x : Int} (hd : 0 ≤ d ∧ d < mxm s) (hx : 0 ≤ x ∧ x < sln s) (h : iAnd (iShr d x) 1 = 0) : pcm (iOr d (iShl 1 x)) = pcm d + 1 ∧ 0 ≤ iOr d (iShl 1 x) ∧ iOr d (iShl 1 x) < mxm s := by
  obtain ⟨k, rfl⟩ : ∃ k : Nat, d = k := ⟨d.toNat, by omega⟩
  obtain ⟨y, rfl⟩ : ∃ y : Nat, x = y := ⟨x.toNat, by omega⟩
  rcases (show s = 0 ∨ s = 1 by omega) with rfl | rfl
  · have h1 : k < 32 := by have : mxm 0 = 32 := rfl; omega
    have h2 : y < 5 := by have : sln 0 = 5 := rfl; omega
    exact pcm_s0 ⟨k, h1⟩ ⟨y, h2⟩ h
  · have h1 : k < 4 := by have : mxm 1 = 4 := rfl; omega
    have h2 : y < 2 := by have : sln 1 = 2 := rfl; omega
    exact pcm_s1 ⟨k, h1⟩ ⟨y, h2⟩ h
def Sit (a Bs n c j : Nat) : Prop := (c = 47 ∧ (j = 10 ∨ j = 11 ∨ j = 12)) ∨ (c = a ∧ Bs ≤ j ∧ j < Bs + n)
theorem Kp.it {a Bs n : Nat} {h h' : Hp} (k : Kp SP h h') : Kp (Sit a Bs n) h h' := k.mono (fun c j q => Or.inl q)

set_option maxRecDepth 20000 in
theorem S_X11_readItems {X : Cx} {h : Hp} {t : List Int} {b B i0 s a Bs : Nat} {fl : Int} {lo up v0 : Int → Int} (hs : s < 2) (hsp : (s = 0 ∧ a = 55 ∧ Bs = 0 ∧ fl = 1 ∧ lo = tLo ∧ up = tHi) ∨ (s = 1 ∧ a = 57 ∧ Bs ≤ 6 ∧ fl = 0 ∧ lo = cLo ∧ up = cHi)) (tx : TXm h t b B) (tk : TOK t) (hi : hI h 47 10 = i0) (hl : i0 ≤ t.length) (hf : hI h 47 11 = -1) (iv : ∀ i : Nat, i < sln s → hI h a (Bs + i) = v0 i) : Spec X mX11_readItems 5 [.ref (adr X 47), .ref (adr X a), .int (iI (Bs : Int)), .ref (adr X (110 + s)), .int (iI fl)] h (fun rv h' => rv = none ∧ (∀ e, itF t (sls s) lo up (sln s + 1) 0 v0 i0 = .inl e → hI h' 47 11 = (e : Int)) ∧ (∀ k w, itF t (sls s) lo up (sln s + 1) 0 v0 i0 = .inr (k, w) → hI h' 47 11 = -1 ∧ hI h' 47 10 = (k : Int) ∧ ∀ j : Nat, j < sln s → hI h' a (Bs + j) = w j) ∧ Kp (Sit a Bs (sln s)) h h') := by
  have t160 := tk.1
  have sl := sls_len (i := s) (by omega)
  have sl5 : sln s ≤ 5 := by rcases (show s = 0 ∨ s = 1 by omega) with rfl | rfl <;> decide
  obtain ⟨na, hna, hnb⟩ : ∃ na, shp[a]? = some (.inl (0, na)) ∧ Bs + sln s ≤ na := by
    rcases hsp with ⟨rfl, rfl, rfl, -⟩ | ⟨rfl, rfl, hb, -⟩
    · exact ⟨5, rfl, by decide⟩
    · exact ⟨8, rfl, by have : sln 1 = 2 := rfl; omega⟩
  have haa : a = 55 ∨ a = 57 := by omega
  have hB6 : Bs ≤ 6 := by omega
  have hfl : fl = 0 ∨ fl = 1 := by omega
  have lb0 := lk_b tk hl
  obtain ⟨V, hV⟩ : ∃ V, V = itF t (sls s) lo up (sln s + 1) 0 v0 i0 := ⟨_, rfl⟩
  rw [← hV]
  refine spec_wp (Nat.le_of_ble_eq_true rfl) (by decide +kernel) ?_
  refine wp_loc [(0, .ref (adr X 47)), (1, .ref (adr X a)), (2, .int (iI (Bs : Int))), (3, .ref (adr X (110 + s))), (4, .int (iI fl))] ⟨rfl, rfl, rfl, rfl, rfl, trivial⟩ ?_
  have K122 : ∀ (n j : Nat) (d x z : Int) (v : Int → Int) (h1 h2 : Hp), (∀ (j : Nat) (d : Int) (v : Int → Int) (h1 : Hp), j ≤ t.length → hI h1 47 10 = ((sk t j : Nat) : Int) → hI h1 47 11 = -1 → (∀ i : Nat, i < sln s → hI h1 a (Bs + i) = v i) → (0 ≤ d ∧ d < mxm s) → pcm d + n = sln s + 1 → Kp (Sit a Bs (sln s)) h h1 → V = itF t (sls s) lo up n d v j → WP X mX11_readItems 5 13 [(0, .ref (adr X 47)), (1, .ref (adr X a)), (2, .int (iI (Bs : Int))), (3, .ref (adr X (110 + s))), (4, .int (iI fl)), (5, .int (iI d)), (6, .int (iI (ixF (lk t j) (sls s) 0)))] [] h1 (fun rv h' => rv = none ∧ (∀ e, V = .inl e → hI h' 47 11 = (e : Int)) ∧ (∀ k w, V = .inr (k, w) → hI h' 47 11 = -1 ∧ hI h' 47 10 = (k : Int) ∧ ∀ j : Nat, j < sln s → hI h' a (Bs + j) = w j) ∧ Kp (Sit a Bs (sln s)) h h')) → j ≤ t.length → sk t j + 1 ≤ t.length → (0 ≤ x ∧ x < sln s) → (pcm (iOr d (iShl 1 x)) = pcm d + 1 ∧ 0 ≤ (iOr d (iShl 1 x)) ∧ (iOr d (iShl 1 x)) < mxm s) → pcm d + (n + 1 : Nat) = sln s + 1 → (∀ i : Nat, i < sln s → hI h1 a (Bs + i) = v i) → Kp (Sit a Bs (sln s)) h h1 → PMn (sI h1 47 10 ((sk t j + 1 : Nat) : Int)) (nuR (lo x) (up x) (nm t 2 (sk t (sk t j + 1)))) (some (.int (iI z))) h2 → V = itQ t (sls s) lo up n d v x (nuR (lo x) (up x) (nm t 2 (sk t (sk t j + 1)))) → WP X mX11_readItems 5 122 [(0, .ref (adr X 47)), (1, .ref (adr X a)), (2, .int (iI (Bs : Int))), (3, .ref (adr X (110 + s))), (4, .int (iI fl)), (5, .int (iI (iOr d (iShl 1 x)))), (6, .int (iI x))] [.int (iI z)] h2 (fun rv h' => rv = none ∧ (∀ e, V = .inl e → hI h' 47 11 = (e : Int)) ∧ (∀ k w, V = .inr (k, w) → hI h' 47 11 = -1 ∧ hI h' 47 10 = (k : Int) ∧ ∀ j : Nat, j < sln s → hI h' a (Bs + j) = w j) ∧ Kp (Sit a Bs (sln s)) h h') := by
    intro n j d x z v h1 h2 ih hj hj1 hx pst hpc iv kp1 hp hV
    obtain ⟨⟨z0, ez, hz, hzv⟩, he2, hr2, kp2⟩ := hp
    have sb2 := sk_b t hj1
    have hcs : (∃ e, nuR (lo x) (up x) (nm t 2 (sk t (sk t j + 1))) = .inl e) ∨ ∃ k y, nuR (lo x) (up x) (nm t 2 (sk t (sk t j + 1))) = .inr (k, y) := by
      cases nuR (lo x) (up x) (nm t 2 (sk t (sk t j + 1))) with
      | inl e => exact Or.inl ⟨e, rfl⟩
      | inr z => exact Or.inr ⟨z.1, z.2, rfl⟩
    have ez9 : iI z = iI z0 := Value.int.inj (Option.some.inj ez)
    rw [ez9]
    rcases hcs with ⟨e, hw⟩ | ⟨k, y, hw⟩
    · have he2 := he2 e hw
      have eb := nuR_l tk sb2.2 hw
      rw [hw] at hV
      have hV : V = .inl e := hV
      subst hV
      refine wp_istore dX11_readItems_122 (by decide) ?_
      refine wp_aload_n dX11_readItems_124 rfl ?_
      refine wp_getI dX11_readItems_125 flX11_131 rfl rfl ?_
      rw [he2]
      refine wp_iconst dX11_readItems_128 ?_
      refine wp_icmpeq 133 dX11_readItems_129 (by decide) (by unfold InR; omega) (by unfold InR; omega) (fun c129 => ?_) (fun c129 => ?_)
      · exact absurd c129 (by omega)
      · exact wp_ret dX11_readItems_132 rfl (⟨rfl, fun e9 q9 => (by cases q9; exact he2), fun k9 x9 e9 => (by cases e9), (kp1.tr kp10.it).tr kp2.it⟩)
    · have hr2 := hr2 k y hw
      have ezy := hzv k y hw
      subst ezy
      obtain ⟨hw9, -⟩ := nuR_r hw
      have hr := nmr tk (by decide) sb2.2 hw9
      have lb3 := lk_b tk hr.2.1
      have sb3 := sk_b t hr.2.1
      rw [hw] at hV
      have hV : V = itF t (sls s) lo up n (iOr d (iShl 1 x)) (upv v x z0) k := hV
      refine wp_istore dX11_readItems_122 (by decide) ?_
      refine wp_aload_n dX11_readItems_124 rfl ?_
      refine wp_getI dX11_readItems_125 flX11_131 rfl rfl ?_
      rw [hr2.1]
      refine wp_iconst dX11_readItems_128 ?_
      refine wp_icmpeq 133 dX11_readItems_129 (by decide) (by unfold InR; omega) (by unfold InR; omega) (fun c129 => ?_) (fun c129 => ?_)
      · refine wp_aload_n dX11_readItems_133 rfl ?_
        refine wp_iload_n dX11_readItems_134 rfl ?_
        refine wp_iload dX11_readItems_135 rfl ?_
        refine wp_iadd dX11_readItems_137 ?_
        refine wp_iload dX11_readItems_138 rfl ?_
        refine wp_iast (n := na) dX11_readItems_140 hna (by omega) (by omega) ?_
        have ix9 : ((Bs : Int) + x).toNat = Bs + x.toNat := by omega
        rw [ix9]
        obtain ⟨h3, eh3⟩ : ∃ h3, h3 = sI h2 a (Bs + x.toNat) z0 := ⟨_, rfl⟩
        rw [← eh3]
        have k3 : Kp (Sit a Bs (sln s)) h h3 := by rw [eh3]; exact ((kp1.tr kp10.it).tr kp2.it).tr (Kp.sI (Or.inr ⟨rfl, by omega, by omega⟩))
        have f11 : hI h3 47 11 = -1 := by rw [eh3, hI_sI, if_neg (by omega)]; exact hr2.1
        have f10 : hI h3 47 10 = (k : Int) := by rw [eh3, hI_sI, if_neg (by omega)]; exact hr2.2
        have fv : ∀ i : Nat, i < sln s → hI h3 a (Bs + i) = upv v x z0 i := fun i hi => by
          rw [eh3, hI_sI]
          unfold upv
          by_cases q : i = x.toNat
          · rw [if_pos ⟨rfl, by omega⟩, if_pos (by omega)]
          · rw [if_neg (fun w => q (by omega)), if_neg (by omega), kp2.1 a _ (by unfold SP; omega), hI_sI, if_neg (by omega)]; exact iv i hi
        have tx3 := tx.ks k3 (by unfold Sit; omega)
        refine wp_aload_n dX11_readItems_141 rfl ?_
        refine wp_aload_n dX11_readItems_142 rfl ?_
        refine wp_callV dX11_readItems_143 mlX11_141 mvX11_look (S_X11_look (i := k) tx3 tk f10 hr.2.1) rfl rfl (by omega) (by decide) rfl rfl rfl (Nat.le_of_ble_eq_true rfl) ?_
        rintro rv h9 ⟨rfl, rfl⟩
        refine wp_callSp dX11_readItems_146 mlX11_233 msX11_placeOf (S_X11_placeOf (by omega) (by unfold InR; omega)) rfl rfl (by omega) (by decide) (Nat.le_of_ble_eq_true rfl) ?_
        refine wp_istore dX11_readItems_149 (by decide) ?_
        refine wp_goto 13 dX11_readItems_151 (by decide) ?_
        refine wp_loc [(0, .ref (adr X 47)), (1, .ref (adr X a)), (2, .int (iI (Bs : Int))), (3, .ref (adr X (110 + s))), (4, .int (iI fl)), (5, .int (iI (iOr d (iShl 1 x)))), (6, .int (iI (ixF (lk t k) (sls s) 0)))] ⟨rfl, rfl, rfl, rfl, rfl, rfl, rfl, trivial⟩ ?_
        exact ih k (iOr d (iShl 1 x)) (upv v x z0) (sI h3 47 10 ((sk t k : Nat) : Int)) hr.2.1 hI_same (by rw [hI_10 (by decide)]; exact f11) (fun i hi => by rw [hI_sI, if_neg (by omega)]; exact fv i hi) pst.2 (by omega) (k3.tr kp10.it) hV
      · exact absurd rfl c129
  have Lp : ∀ (n j : Nat) (d : Int) (v : Int → Int) (h1 : Hp), j ≤ t.length → hI h1 47 10 = ((sk t j : Nat) : Int) → hI h1 47 11 = -1 → (∀ i : Nat, i < sln s → hI h1 a (Bs + i) = v i) → (0 ≤ d ∧ d < mxm s) → pcm d + n = sln s + 1 → Kp (Sit a Bs (sln s)) h h1 → V = itF t (sls s) lo up n d v j → WP X mX11_readItems 5 13 [(0, .ref (adr X 47)), (1, .ref (adr X a)), (2, .int (iI (Bs : Int))), (3, .ref (adr X (110 + s))), (4, .int (iI fl)), (5, .int (iI d)), (6, .int (iI (ixF (lk t j) (sls s) 0)))] [] h1 (fun rv h' => rv = none ∧ (∀ e, V = .inl e → hI h' 47 11 = (e : Int)) ∧ (∀ k w, V = .inr (k, w) → hI h' 47 11 = -1 ∧ hI h' 47 10 = (k : Int) ∧ ∀ j : Nat, j < sln s → hI h' a (Bs + j) = w j) ∧ Kp (Sit a Bs (sln s)) h h') := by
    intro n
    induction n with
    | zero => intro j d v h1 _ _ _ _ hd hp; have := pcm_b hs hd; omega
    | succ n ih =>
        intro j d v h1 hj hat hf1 iv hd hpc kp1 hV
        have sb := sk_b t hj
        have lb := lk_b tk hj
        have hx := ixF_b (lk t j) (sls s) 0
        rw [it_s] at hV
        obtain ⟨x, ex⟩ : ∃ x : Int, x = ixF (lk t j) (sls s) 0 := ⟨_, rfl⟩
        rw [← ex] at hV hx ⊢
        refine wp_iload dX11_readItems_13 rfl ?_
        refine wp_iconst dX11_readItems_15 ?_
        refine wp_icmpeq 154 dX11_readItems_16 (by decide) (by unfold InR; omega) (by unfold InR; omega) (fun c16 => ?_) (fun c16 => ?_)
        · exact wp_ret dX11_readItems_154 rfl (by
    rw [if_pos c16] at hV
    subst hV
    exact ⟨rfl, fun e9 q9 => (by cases q9), fun k9 w9 e9 => (by cases e9; exact ⟨hf1, hat, iv⟩), kp1⟩)
        · rw [if_neg c16] at hV
          have hx2 : 0 ≤ x ∧ x < sln s := by omega
          have ln : lk t j ≠ -1 := fun q => c16 (ex.trans (ixF_no (fun y hy => by rw [q]; exact sls_no (by omega) y hy)))
          have lin := lk_in tk hj ln
          have b1 := iAnd_b (iShr d x) (b := 1) (by omega) (by omega)
          refine wp_aload_n dX11_readItems_19 rfl ?_
          refine wp_getI dX11_readItems_20 flX11_131 rfl rfl ?_
          rw [hf1]
          refine wp_iconst dX11_readItems_23 ?_
          refine wp_icmpne 154 dX11_readItems_24 (by decide) (by unfold InR; omega) (by unfold InR; omega) (fun c24 => ?_) (fun c24 => ?_)
          · exact absurd rfl c24
          · refine wp_iload dX11_readItems_27 rfl ?_
            refine wp_iload dX11_readItems_29 rfl ?_
            refine wp_callSp dX11_readItems_31 mlX11_237 msX11_has (S_X11_has) rfl rfl (by omega) (by decide) (Nat.le_of_ble_eq_true rfl) ?_
            refine wp_ifeqb 43 dX11_readItems_34 (by decide) (fun c34 => ?_) (fun c34 => ?_)
            · rw [if_neg (by omega)] at hV
              have pst := pcm_st hs hd hx2 (by omega)
              refine wp_iload dX11_readItems_43 rfl ?_
              refine wp_iconst dX11_readItems_45 ?_
              refine wp_iload dX11_readItems_46 rfl ?_
              refine wp_ishl dX11_readItems_48 ?_
              refine wp_ior dX11_readItems_49 ?_
              refine wp_istore dX11_readItems_50 (by decide) ?_
              refine wp_aload_n dX11_readItems_52 rfl ?_
              refine wp_dup dX11_readItems_53 rfl ?_
              refine wp_getI dX11_readItems_54 flX11_122 rfl rfl ?_
              rw [hat]
              refine wp_iconst dX11_readItems_57 ?_
              refine wp_iadd dX11_readItems_58 ?_
              refine wp_putI dX11_readItems_59 plX11_122 rfl rfl ?_
              rw [show ((sk t j : Nat) : Int) + 1 = ((sk t j + 1 : Nat) : Int) by omega]
              have tx1 := (tx.ks kp1 (by unfold Sit; omega)).kp (kp10 (v := ((sk t j + 1 : Nat) : Int)))
              refine wp_iload dX11_readItems_62 rfl ?_
              refine wp_ifeq 96 dX11_readItems_64 (by decide) (by unfold InR; omega) (fun c64 => ?_) (fun c64 => ?_)
              · refine wp_aload_n dX11_readItems_96 rfl ?_
                refine wp_iload dX11_readItems_97 rfl ?_
                refine wp_ifne 106 dX11_readItems_99 (by decide) (by unfold InR; omega) (fun c99 => ?_) (fun c99 => ?_)
                · refine wp_iconst dX11_readItems_106 ?_
                  refine wp_iload dX11_readItems_107 rfl ?_
                  refine wp_ifne 117 dX11_readItems_109 (by decide) (by unfold InR; omega) (fun c109 => ?_) (fun c109 => ?_)
                  · refine wp_bipush dX11_readItems_117 rfl ?_
                    have elo : lo x = 0 := by
                      rcases hsp with q | q
                      · exact absurd q.2.2.2.1 (by omega)
                      · rw [q.2.2.2.2.1]; exact if_neg c99
                    have eup : up x = 9 := by
                      rcases hsp with q | q
                      · exact absurd q.2.2.2.1 (by omega)
                      · rw [q.2.2.2.2.2]; exact if_neg c99
                    refine wp_callV dX11_readItems_119 mlX11_226 mvX11_number (S_X11_number (i := sk t j + 1) (lo := 0) (hi := 9) tx1 tk hI_same (by omega) (by rw [hI_10 (by decide)]; exact hf1) (by unfold InR; omega) (by unfold InR; omega)) rfl rfl (by omega) (by decide) rfl rfl rfl (Nat.le_of_ble_eq_true rfl) ?_
                    rintro rv h2 p
                    have p : PMn (sI h1 47 10 ((sk t j + 1 : Nat) : Int)) (nuR (lo x) (up x) (nm t 2 (sk t (sk t j + 1)))) rv h2 := by rw [elo, eup]; exact p
                    obtain ⟨z, erv, -⟩ := id p.1
                    subst erv
                    refine wp_loc [(0, .ref (adr X 47)), (1, .ref (adr X a)), (2, .int (iI (Bs : Int))), (3, .ref (adr X (110 + s))), (4, .int (iI fl)), (5, .int (iI (iOr d (iShl 1 x)))), (6, .int (iI x))] ⟨rfl, rfl, rfl, rfl, rfl, rfl, rfl, trivial⟩ ?_
                    exact K122 n j d x z v h1 h2 ih hj (by omega) hx2 pst hpc iv kp1 p hV
                  · exact absurd c109 c99
                · refine wp_iconst dX11_readItems_102 ?_
                  refine wp_goto 107 dX11_readItems_103 (by decide) ?_
                  refine wp_iload dX11_readItems_107 rfl ?_
                  refine wp_ifne 117 dX11_readItems_109 (by decide) (by unfold InR; omega) (fun c109 => ?_) (fun c109 => ?_)
                  · exact absurd c99 c109
                  · refine wp_bipush dX11_readItems_112 rfl ?_
                    refine wp_goto 119 dX11_readItems_114 (by decide) ?_
                    have elo : lo x = 1 := by
                      rcases hsp with q | q
                      · exact absurd q.2.2.2.1 (by omega)
                      · rw [q.2.2.2.2.1]; exact if_pos c99
                    have eup : up x = 20 := by
                      rcases hsp with q | q
                      · exact absurd q.2.2.2.1 (by omega)
                      · rw [q.2.2.2.2.2]; exact if_pos c99
                    refine wp_callV dX11_readItems_119 mlX11_226 mvX11_number (S_X11_number (i := sk t j + 1) (lo := 1) (hi := 20) tx1 tk hI_same (by omega) (by rw [hI_10 (by decide)]; exact hf1) (by unfold InR; omega) (by unfold InR; omega)) rfl rfl (by omega) (by decide) rfl rfl rfl (Nat.le_of_ble_eq_true rfl) ?_
                    rintro rv h2 p
                    have p : PMn (sI h1 47 10 ((sk t j + 1 : Nat) : Int)) (nuR (lo x) (up x) (nm t 2 (sk t (sk t j + 1)))) rv h2 := by rw [elo, eup]; exact p
                    obtain ⟨z, erv, -⟩ := id p.1
                    subst erv
                    refine wp_loc [(0, .ref (adr X 47)), (1, .ref (adr X a)), (2, .int (iI (Bs : Int))), (3, .ref (adr X (110 + s))), (4, .int (iI fl)), (5, .int (iI (iOr d (iShl 1 x)))), (6, .int (iI x))] ⟨rfl, rfl, rfl, rfl, rfl, rfl, rfl, trivial⟩ ?_
                    exact K122 n j d x z v h1 h2 ih hj (by omega) hx2 pst hpc iv kp1 p hV
              · refine wp_aload_n dX11_readItems_67 rfl ?_
                refine wp_iload dX11_readItems_68 rfl ?_
                refine wp_ifne 77 dX11_readItems_70 (by decide) (by unfold InR; omega) (fun c70 => ?_) (fun c70 => ?_)
                · refine wp_iconst dX11_readItems_77 ?_
                  refine wp_iload dX11_readItems_78 rfl ?_
                  refine wp_ifne 88 dX11_readItems_80 (by decide) (by unfold InR; omega) (fun c80 => ?_) (fun c80 => ?_)
                  · refine wp_bipush dX11_readItems_88 rfl ?_
                    have elo : lo x = 0 := by
                      rcases hsp with q | q
                      · rw [q.2.2.2.2.1]; exact if_neg c70
                      · exact absurd q.2.2.2.1 (by omega)
                    have eup : up x = 99 := by
                      rcases hsp with q | q
                      · rw [q.2.2.2.2.2]; exact if_neg c70
                      · exact absurd q.2.2.2.1 (by omega)
                    refine wp_callV dX11_readItems_90 mlX11_226 mvX11_number (S_X11_number (i := sk t j + 1) (lo := 0) (hi := 99) tx1 tk hI_same (by omega) (by rw [hI_10 (by decide)]; exact hf1) (by unfold InR; omega) (by unfold InR; omega)) rfl rfl (by omega) (by decide) rfl rfl rfl (Nat.le_of_ble_eq_true rfl) ?_
                    rintro rv h2 p
                    have p : PMn (sI h1 47 10 ((sk t j + 1 : Nat) : Int)) (nuR (lo x) (up x) (nm t 2 (sk t (sk t j + 1)))) rv h2 := by rw [elo, eup]; exact p
                    obtain ⟨z, erv, -⟩ := id p.1
                    subst erv
                    refine wp_goto 122 dX11_readItems_93 (by decide) ?_
                    refine wp_loc [(0, .ref (adr X 47)), (1, .ref (adr X a)), (2, .int (iI (Bs : Int))), (3, .ref (adr X (110 + s))), (4, .int (iI fl)), (5, .int (iI (iOr d (iShl 1 x)))), (6, .int (iI x))] ⟨rfl, rfl, rfl, rfl, rfl, rfl, rfl, trivial⟩ ?_
                    exact K122 n j d x z v h1 h2 ih hj (by omega) hx2 pst hpc iv kp1 p hV
                  · exact absurd c80 c70
                · refine wp_iconst dX11_readItems_73 ?_
                  refine wp_goto 78 dX11_readItems_74 (by decide) ?_
                  refine wp_iload dX11_readItems_78 rfl ?_
                  refine wp_ifne 88 dX11_readItems_80 (by decide) (by unfold InR; omega) (fun c80 => ?_) (fun c80 => ?_)
                  · exact absurd c70 c80
                  · refine wp_bipush dX11_readItems_83 rfl ?_
                    refine wp_goto 90 dX11_readItems_85 (by decide) ?_
                    have elo : lo x = 1 := by
                      rcases hsp with q | q
                      · rw [q.2.2.2.2.1]; exact if_pos c70
                      · exact absurd q.2.2.2.1 (by omega)
                    have eup : up x = 11 := by
                      rcases hsp with q | q
                      · rw [q.2.2.2.2.2]; exact if_pos c70
                      · exact absurd q.2.2.2.1 (by omega)
                    refine wp_callV dX11_readItems_90 mlX11_226 mvX11_number (S_X11_number (i := sk t j + 1) (lo := 1) (hi := 11) tx1 tk hI_same (by omega) (by rw [hI_10 (by decide)]; exact hf1) (by unfold InR; omega) (by unfold InR; omega)) rfl rfl (by omega) (by decide) rfl rfl rfl (Nat.le_of_ble_eq_true rfl) ?_
                    rintro rv h2 p
                    have p : PMn (sI h1 47 10 ((sk t j + 1 : Nat) : Int)) (nuR (lo x) (up x) (nm t 2 (sk t (sk t j + 1)))) rv h2 := by rw [elo, eup]; exact p
                    obtain ⟨z, erv, -⟩ := id p.1
                    subst erv
                    refine wp_goto 122 dX11_readItems_93 (by decide) ?_
                    refine wp_loc [(0, .ref (adr X 47)), (1, .ref (adr X a)), (2, .int (iI (Bs : Int))), (3, .ref (adr X (110 + s))), (4, .int (iI fl)), (5, .int (iI (iOr d (iShl 1 x)))), (6, .int (iI x))] ⟨rfl, rfl, rfl, rfl, rfl, rfl, rfl, trivial⟩ ?_
                    exact K122 n j d x z v h1 h2 ih hj (by omega) hx2 pst hpc iv kp1 p hV
            · refine wp_aload_n dX11_readItems_37 rfl ?_
              refine wp_callV dX11_readItems_38 mlX11_137 mvX11_fails (S_X11_fails hf1) rfl rfl (by omega) (by decide) rfl rfl rfl (Nat.le_of_ble_eq_true rfl) ?_
              rintro rv h9 ⟨rfl, rfl⟩
              rw [hat]
              refine wp_pop dX11_readItems_41 rfl ?_
              exact wp_ret dX11_readItems_42 rfl (by
    rw [if_pos (by omega)] at hV
    subst hV
    exact ⟨rfl, fun e9 q9 => (by cases q9; exact hI_same), fun k9 x9 e9 => (by cases e9), kp1.tr kp11.it⟩)
  refine wp_iconst dX11_readItems_0 ?_
  refine wp_istore dX11_readItems_1 (by decide) ?_
  refine wp_aload_n dX11_readItems_3 rfl ?_
  refine wp_aload_n dX11_readItems_4 rfl ?_
  refine wp_callV dX11_readItems_5 mlX11_141 mvX11_look (S_X11_look (i := i0) tx tk hi hl) rfl rfl (by omega) (by decide) rfl rfl rfl (Nat.le_of_ble_eq_true rfl) ?_
  rintro rv h9 ⟨rfl, rfl⟩
  refine wp_callSp dX11_readItems_8 mlX11_233 msX11_placeOf (S_X11_placeOf (by omega) (by unfold InR; omega)) rfl rfl (by omega) (by decide) (Nat.le_of_ble_eq_true rfl) ?_
  refine wp_istore dX11_readItems_11 (by decide) ?_
  refine wp_loc [(0, .ref (adr X 47)), (1, .ref (adr X a)), (2, .int (iI (Bs : Int))), (3, .ref (adr X (110 + s))), (4, .int (iI fl)), (5, .int (iI 0)), (6, .int (iI (ixF (lk t i0) (sls s) 0)))] ⟨rfl, rfl, rfl, rfl, rfl, rfl, rfl, trivial⟩ ?_
  exact Lp (sln s + 1) i0 0 v0 (sI h 47 10 ((sk t i0 : Nat) : Int)) hl hI_same (by rw [hI_10 (by decide)]; exact hf) (fun i hi => by rw [hI_sI, if_neg (by omega)]; exact iv i hi) (by unfold mxm; split <;> omega) (by rw [show pcm 0 = 0 by decide +kernel]; omega) kp10.it hV

