/-! the reference: numbers by which it would have rocked so -/
def fitF (c : Int → Bool) : Nat → Int → Int → Int → Int → Int × Int × Int
  | 0, _, m, l, g => (m, l, g)
  | n + 1, v, m, l, g => if c v = true then fitF c n (v + 1) (m + 1) (if l = -1 then v else l) v else fitF c n (v + 1) m l g
def sel3 (w : Int) (x : Int × Int × Int) : Int := if w = 0 then x.1 else if w = 1 then x.2.1 else x.2.2
theorem fit_rng {c : Int → Bool} {lo hi : Int} (h0 : 0 ≤ lo) (h1 : hi ≤ 99) (hc : ∀ v, 0 ≤ v → v ≤ 99 → (c v = true ↔ lo ≤ v ∧ v ≤ hi)) : ∀ (n : Nat) (v m l g : Int), v + n = 100 → 0 ≤ v → m = max 0 (min hi (v - 1) - lo + 1) → l = (if min hi (v - 1) < lo then -1 else lo) → g = (if min hi (v - 1) < lo then -1 else min hi (v - 1)) → fitF c n v m l g = (max 0 (hi - lo + 1), (if hi < lo then -1 else lo), if hi < lo then -1 else hi)
  | 0, v, m, l, g, hn, hv, hm, hl, hg => by
    have e : min hi (v - 1) = hi := by omega
    rw [e] at hm hl hg
    rw [fitF, hm, hl, hg]
  | n + 1, v, m, l, g, hn, hv, hm, hl, hg => by
    rw [fitF]
    by_cases q : c v = true
    · rw [if_pos q]
      rw [hc v hv (by omega)] at q
      have e : min hi (v + 1 - 1) = v := by omega
      refine fit_rng h0 h1 hc n (v + 1) _ _ _ (by omega) (by omega) ?_ ?_ ?_
      · rw [e, hm]; omega
      · have t : (if v < lo then (-1 : Int) else lo) = lo := if_neg (by omega)
        rw [e, t, hl]
        by_cases z : min hi (v - 1) < lo
        · rw [if_pos z, if_pos rfl]; omega
        · rw [if_neg z, if_neg (by omega)]
      · rw [e, if_neg (by omega)]
    · rw [if_neg q]
      rw [hc v hv (by omega)] at q
      refine fit_rng h0 h1 hc n (v + 1) _ _ _ (by omega) (by omega) ?_ ?_ ?_
      · rw [hm]; omega
      · rw [hl]
        by_cases z : min hi (v - 1) < lo
        · rw [if_pos z, if_pos (by omega)]
        · rw [if_neg z, if_neg (by omega)]
      · rw [hg]
        by_cases z : min hi (v - 1) < lo
        · rw [if_pos z, if_pos (by omega)]
        · rw [if_neg z, if_neg (by omega)]; omega
theorem nrw_in {b s g v : Int} {r : Int × Int} (hs : -1 ≤ s ∧ s ≤ 1) (hg : -1 ≤ g ∧ g ≤ 1) (hr : 0 ≤ r.1 ∧ r.2 ≤ 99) (hv : 0 ≤ v) : ((nrw b s g r).1 ≤ v ∧ v ≤ (nrw b s g r).2 ↔ (r.1 ≤ v ∧ v ≤ r.2) ∧ sgn (b + s * v) = g) ∧ 0 ≤ (nrw b s g r).1 ∧ (nrw b s g r).2 ≤ 99 := by
  obtain ⟨lo, hi⟩ := r
  dsimp only at hr ⊢
  rcases (show s = -1 ∨ s = 0 ∨ s = 1 by omega) with rfl | rfl | rfl
  · rw [show b + -1 * v = b - v by omega]
    unfold nrw
    rw [if_neg (by decide), show -b * -1 = b by omega]
    unfold sgn
    rcases (show g = -1 ∨ g = 0 ∨ g = 1 by omega) with rfl | rfl | rfl
    · rw [if_neg (by decide), if_pos rfl]; dsimp only; split <;> (try split) <;> omega
    · rw [if_pos rfl]; dsimp only; split <;> (try split) <;> omega
    · rw [if_neg (by decide), if_neg (by decide)]; dsimp only; split <;> (try split) <;> omega
  · rw [show b + 0 * v = b by omega]
    unfold nrw
    rw [if_pos rfl]
    split
    · rename_i e; dsimp only; constructor
      · constructor
        · intro q; exact ⟨q, e⟩
        · intro q; exact q.1
      · omega
    · rename_i e; dsimp only; constructor
      · constructor
        · intro q; omega
        · intro q; exact absurd q.2 e
      · omega
  · rw [show b + 1 * v = b + v by omega]
    unfold nrw
    rw [if_neg (by decide), show -b * 1 = -b by omega]
    unfold sgn
    rcases (show g = -1 ∨ g = 0 ∨ g = 1 by omega) with rfl | rfl | rfl
    · rw [if_neg (by decide), if_neg (by decide)]; dsimp only; split <;> (try split) <;> omega
    · rw [if_pos rfl]; dsimp only; split <;> (try split) <;> omega
    · rw [if_neg (by decide), if_pos rfl]; dsimp only; split <;> (try split) <;> omega
theorem fold_in {B S : Int × Int → Int} {v : Int} (hv : 0 ≤ v) : ∀ (R : List (Int × Int)) (r : Int × Int), (∀ q ∈ R, (-1 ≤ S q ∧ S q ≤ 1) ∧ -1 ≤ q.2 ∧ q.2 ≤ 1) → (0 ≤ r.1 ∧ r.2 ≤ 99) → ((R.foldl (fun r q => nrw (B q) (S q) q.2 r) r).1 ≤ v ∧ v ≤ (R.foldl (fun r q => nrw (B q) (S q) q.2 r) r).2 ↔ (r.1 ≤ v ∧ v ≤ r.2) ∧ ∀ q ∈ R, sgn (B q + S q * v) = q.2) ∧ 0 ≤ (R.foldl (fun r q => nrw (B q) (S q) q.2 r) r).1 ∧ (R.foldl (fun r q => nrw (B q) (S q) q.2 r) r).2 ≤ 99
  | [], r, hR, hr => ⟨⟨fun q => ⟨q, fun _ z => by cases z⟩, fun q => q.1⟩, hr⟩
  | q :: R, r, hR, hr => by
    have h1 := nrw_in (b := B q) (s := S q) (g := q.2) (v := v) (r := r) (hR q List.mem_cons_self).1 (hR q List.mem_cons_self).2 hr hv
    have h2 := fold_in (B := B) (S := S) hv R (nrw (B q) (S q) q.2 r) (fun x hx => hR x (List.mem_cons_of_mem _ hx)) h1.2
    rw [List.foldl_cons]
    refine ⟨?_, h2.2⟩
    rw [h2.1, h1.1]
    constructor
    · rintro ⟨⟨a, b⟩, d⟩
      refine ⟨a, fun x hx => ?_⟩
      rcases List.mem_cons.mp hx with rfl | hx
      · exact b
      · exact d x hx
    · rintro ⟨a, d⟩
      exact ⟨⟨a, d q List.mem_cons_self⟩, fun x hx => d x (List.mem_cons_of_mem _ hx)⟩
theorem fit_fold {γ : Int → Int → Int} {B S : Int × Int → Int} {R : List (Int × Int)} (hR : ∀ q ∈ R, (-1 ≤ S q ∧ S q ≤ 1) ∧ -1 ≤ q.2 ∧ q.2 ≤ 1) (hγ : ∀ q ∈ R, ∀ v, 0 ≤ v → v ≤ 99 → γ v q.1 = B q + S q * v) (w : Int) : sel3 w (fitF (fun v => R.all (soG (γ v))) 100 0 0 (-1) (-1)) = rngA w (R.foldl (fun r q => nrw (B q) (S q) q.2 r) (0, 99)) := by
  have hb := (fold_in (B := B) (S := S) (v := 0) (Int.le_refl _) R (0, 99) hR ⟨by decide, by decide⟩).2
  have e := fit_rng (c := fun v => R.all (soG (γ v))) (lo := (R.foldl (fun r q => nrw (B q) (S q) q.2 r) (0, 99)).1) (hi := (R.foldl (fun r q => nrw (B q) (S q) q.2 r) (0, 99)).2) hb.1 hb.2 (fun v v0 v1 => by
    rw [(fold_in (B := B) (S := S) v0 R (0, 99) hR ⟨by decide, by decide⟩).1]
    show R.all (soG (γ v)) = true ↔ _
    rw [List.all_eq_true]
    constructor
    · intro q
      refine ⟨⟨v0, v1⟩, fun x hx => ?_⟩
      have := q x hx
      unfold soG at this
      rw [decide_eq_true_iff, hγ x hx v v0 v1] at this
      exact this
    · intro q x hx
      unfold soG
      rw [decide_eq_true_iff, hγ x hx v v0 v1]
      exact q.2 x hx) 100 0 0 (-1) (-1) (by omega) (by omega) (by omega) (by rw [if_pos (by omega)]) (by rw [if_pos (by omega)])
  rw [e]
  generalize R.foldl (fun r q => nrw (B q) (S q) q.2 r) (0, 99) = r
  unfold sel3 rngA
  dsimp only
  by_cases w0 : w = 0
  · rw [if_pos w0, if_pos w0]
  · rw [if_neg w0, if_neg w0]
    by_cases z : r.2 < r.1
    · rw [if_pos z, if_pos z, if_pos z]
      split <;> rfl
    · rw [if_neg z, if_neg z, if_neg z]

set_option maxRecDepth 20000 in
theorem S_X11_fitsOf {X : Cx} {h : Hp} {b n0 : Nat} {pl w P V : Int} {γ : Int → Int → Int} {R : List (Int × Int)} (hb : shp[b]? = some (.inl (0, n0))) (hb2 : b = 52 ∨ b = 54) (hpl : 0 ≤ pl ∧ pl < n0) (hw : InR w) (hR : RKD h P R) (hg : ∀ v, 0 ≤ v → v ≤ 99 → GB2 (GM (sI h b pl.toNat v)) ∧ γ v = gapF (GM (sI h b pl.toNat v)) ∧ P = gP (GM (sI h b pl.toNat v))) (hV0 : V = sel3 w (fitF (fun v => R.all (soG (γ v))) 100 0 0 (-1) (-1))) : Spec X mX11_fitsOf 5 [.ref (adr X 47), .ref (adr X b), .int (iI pl), .int (iI w)] h (fun rv h' => rv = some (.int (iI V)) ∧ h' = h) := by
  refine spec_wp (Nat.le_of_ble_eq_true rfl) (by decide +kernel) ?_
  refine wp_loc [(0, .ref (adr X 47)), (1, .ref (adr X b)), (2, .int (iI pl)), (3, .int (iI w))] ⟨rfl, rfl, rfl, rfl, trivial⟩ ?_
  have Lfit : ∀ (n : Nat) (v m l g u : Int), (v + n = 100 ∧ 0 ≤ v) → (-1 ≤ l ∧ l ≤ 100) → (V = sel3 w (fitF (fun v => R.all (soG (γ v))) n v m l g)) → WP X mX11_fitsOf 5 17 [(0, .ref (adr X 47)), (1, .ref (adr X b)), (2, .int (iI pl)), (3, .int (iI w)), (4, .int (iI (hI h b pl.toNat))), (5, .int (iI m)), (6, .int (iI l)), (7, .int (iI g)), (8, .int (iI v))] [] (sI h b pl.toNat u) (fun rv h' => rv = some (.int (iI V)) ∧ h' = h) := by
    intro n
    induction n with
    | zero =>
      intro v m l g u hn hml hV
      refine wp_iload dX11_fitsOf_17 rfl ?_
      refine wp_bipush dX11_fitsOf_19 rfl ?_
      refine wp_icmpgt 67 dX11_fitsOf_21 (by decide) (by first | assumption | (unfold InR; omega)) (by first | assumption | (unfold InR; omega)) (fun c21 => ?_) (fun c21 => ?_)
      · refine wp_aload_n dX11_fitsOf_67 rfl ?_
        refine wp_iload_n dX11_fitsOf_68 rfl ?_
        refine wp_iload dX11_fitsOf_69 rfl ?_
        refine wp_iast dX11_fitsOf_71 hb hpl.1 hpl.2 ?_
        rw [sI_sI, sI_self rfl]
        refine wp_iload_n dX11_fitsOf_72 rfl ?_
        refine wp_ifne 81 dX11_fitsOf_73 (by decide) (by first | assumption | (unfold InR; omega)) (fun c73 => ?_) (fun c73 => ?_)
        · refine wp_iload_n dX11_fitsOf_81 rfl ?_
          refine wp_iconst dX11_fitsOf_82 ?_
          refine wp_icmpne 91 dX11_fitsOf_83 (by decide) (by first | assumption | (unfold InR; omega)) (by first | assumption | (unfold InR; omega)) (fun c83 => ?_) (fun c83 => ?_)
          · refine wp_iload dX11_fitsOf_91 rfl ?_
            exact wp_iret dX11_fitsOf_93 rfl (by
    have hV : V = sel3 w (m, l, g) := hV
    unfold sel3 at hV
    rw [if_neg c73, if_neg c83] at hV
    exact ⟨vi hV.symm, rfl⟩)
          · refine wp_iload dX11_fitsOf_86 rfl ?_
            refine wp_goto 93 dX11_fitsOf_88 (by decide) ?_
            exact wp_iret dX11_fitsOf_93 rfl (by
    have hV : V = sel3 w (m, l, g) := hV
    unfold sel3 at hV
    rw [if_neg c73, if_pos c83] at hV
    exact ⟨vi hV.symm, rfl⟩)
        · refine wp_iload dX11_fitsOf_76 rfl ?_
          refine wp_goto 93 dX11_fitsOf_78 (by decide) ?_
          exact wp_iret dX11_fitsOf_93 rfl (by
    have hV : V = sel3 w (m, l, g) := hV
    unfold sel3 at hV
    rw [if_pos c73] at hV
    exact ⟨vi hV.symm, rfl⟩)
      · exact absurd c21 (by omega)
    | succ n ih =>
      intro v m l g u hn hml hV
      refine wp_iload dX11_fitsOf_17 rfl ?_
      refine wp_bipush dX11_fitsOf_19 rfl ?_
      refine wp_icmpgt 67 dX11_fitsOf_21 (by decide) (by unfold InR; omega) (by unfold InR; omega) (fun c21 => ?_) (fun c21 => ?_)
      · exact absurd c21 (by omega)
      · refine wp_aload_n dX11_fitsOf_24 rfl ?_
        refine wp_iload_n dX11_fitsOf_25 rfl ?_
        refine wp_iload dX11_fitsOf_26 rfl ?_
        refine wp_iast dX11_fitsOf_28 hb hpl.1 hpl.2 ?_
        rw [sI_sI]
        refine wp_aload_n dX11_fitsOf_29 rfl ?_
        refine wp_callVp dX11_fitsOf_30 mlX11_360 mvX11_wasSo (S_X11_wasSo (γ := γ v) (P := P) (R := R) (hg v (by omega) (by omega)).1 (hg v (by omega) (by omega)).2.1 (hg v (by omega) (by omega)).2.2 (hR.kp (by rw [hI_sI, if_neg (by omega)]) (fun i => by rw [hI_sI, if_neg (by omega)]) (fun i => by rw [hI_sI, if_neg (by omega)]))) rfl rfl (by decide) (by decide) rfl rfl rfl (Nat.le_of_ble_eq_true rfl) ?_
        rw [fitF] at hV
        refine wp_ifneb 39 dX11_fitsOf_33 (by decide) (fun c33 => ?_) (fun c33 => ?_)
        · refine wp_iinc dX11_fitsOf_39 rfl (by decide) ?_
          refine wp_iload dX11_fitsOf_42 rfl ?_
          refine wp_iconst dX11_fitsOf_44 ?_
          refine wp_icmpne 53 dX11_fitsOf_45 (by decide) (by unfold InR; omega) (by unfold InR; omega) (fun c45 => ?_) (fun c45 => ?_)
          · refine wp_iload dX11_fitsOf_53 rfl ?_
            refine wp_istore dX11_fitsOf_55 (by decide) ?_
            refine wp_iload dX11_fitsOf_57 rfl ?_
            refine wp_istore dX11_fitsOf_59 (by decide) ?_
            refine wp_iinc dX11_fitsOf_61 rfl (by decide) ?_
            refine wp_goto 17 dX11_fitsOf_64 (by decide) ?_
            rw [if_pos c33, if_neg c45] at hV
            refine wp_loc [(0, .ref (adr X 47)), (1, .ref (adr X b)), (2, .int (iI pl)), (3, .int (iI w)), (4, .int (iI (hI h b pl.toNat))), (5, .int (iI (m + 1))), (6, .int (iI l)), (7, .int (iI v)), (8, .int (iI (v + 1)))] ⟨rfl, rfl, rfl, rfl, rfl, rfl, rfl, rfl, rfl, trivial⟩ ?_
            exact ih (v + 1) (m + 1) _ v v (by omega) (by omega) hV
          · refine wp_iload dX11_fitsOf_48 rfl ?_
            refine wp_goto 55 dX11_fitsOf_50 (by decide) ?_
            refine wp_istore dX11_fitsOf_55 (by decide) ?_
            refine wp_iload dX11_fitsOf_57 rfl ?_
            refine wp_istore dX11_fitsOf_59 (by decide) ?_
            refine wp_iinc dX11_fitsOf_61 rfl (by decide) ?_
            refine wp_goto 17 dX11_fitsOf_64 (by decide) ?_
            rw [if_pos c33, if_pos c45] at hV
            refine wp_loc [(0, .ref (adr X 47)), (1, .ref (adr X b)), (2, .int (iI pl)), (3, .int (iI w)), (4, .int (iI (hI h b pl.toNat))), (5, .int (iI (m + 1))), (6, .int (iI v)), (7, .int (iI v)), (8, .int (iI (v + 1)))] ⟨rfl, rfl, rfl, rfl, rfl, rfl, rfl, rfl, rfl, trivial⟩ ?_
            exact ih (v + 1) (m + 1) _ v v (by omega) (by omega) hV
        · refine wp_goto 61 dX11_fitsOf_36 (by decide) ?_
          refine wp_iinc dX11_fitsOf_61 rfl (by decide) ?_
          refine wp_goto 17 dX11_fitsOf_64 (by decide) ?_
          rw [if_neg c33] at hV
          refine wp_loc [(0, .ref (adr X 47)), (1, .ref (adr X b)), (2, .int (iI pl)), (3, .int (iI w)), (4, .int (iI (hI h b pl.toNat))), (5, .int (iI m)), (6, .int (iI l)), (7, .int (iI g)), (8, .int (iI (v + 1)))] ⟨rfl, rfl, rfl, rfl, rfl, rfl, rfl, rfl, rfl, trivial⟩ ?_
          exact ih (v + 1) m l g v (by omega) hml hV
  refine wp_aload_n dX11_fitsOf_0 rfl ?_
  refine wp_iload_n dX11_fitsOf_1 rfl ?_
  refine wp_iald dX11_fitsOf_2 (by first | rfl | exact gs1 hG | exact gs2 hG | exact gs3 hG | exact gs4 hG | exact ws1 hW | exact ws2 hW | assumption) hpl.1 hpl.2 ?_
  refine wp_istore dX11_fitsOf_3 (by decide) ?_
  refine wp_iconst dX11_fitsOf_5 ?_
  refine wp_istore dX11_fitsOf_6 (by decide) ?_
  refine wp_iconst dX11_fitsOf_8 ?_
  refine wp_istore dX11_fitsOf_9 (by decide) ?_
  refine wp_iconst dX11_fitsOf_11 ?_
  refine wp_istore dX11_fitsOf_12 (by decide) ?_
  refine wp_iconst dX11_fitsOf_14 ?_
  refine wp_istore dX11_fitsOf_15 (by decide) ?_
  refine wp_loc [(0, .ref (adr X 47)), (1, .ref (adr X b)), (2, .int (iI pl)), (3, .int (iI w)), (4, .int (iI (hI h b pl.toNat))), (5, .int (iI 0)), (6, .int (iI (-1))), (7, .int (iI (-1))), (8, .int (iI 0))] ⟨rfl, rfl, rfl, rfl, rfl, rfl, rfl, rfl, rfl, trivial⟩ ?_
  have q := Lfit 100 0 0 (-1) (-1) (hI h b pl.toNat) (by omega) (by omega) hV0
  rw [sI_self rfl] at q
  exact q

/-- another height, another leg -/
def gEH (G : Gdn) (p v : Int) : Gdn := ((gP G, gA G, 0), upv (gH G) p v, gS G, (fun _ => 0), fun _ => 0)
def gES (G : Gdn) (l v : Int) : Gdn := ((gP G, gA G, 0), gH G, upv (gS G) l v, (fun _ => 0), fun _ => 0)
theorem hM_set {h : Hp} {p v : Int} (hp : 0 ≤ p ∧ p < hI h 47 24) : hM (sI h 52 p.toNat v) = upv (hM h) p v := by
  funext i
  have e0 : hI (sI h 52 p.toNat v) 47 24 = hI h 47 24 := by rw [hI_sI, if_neg (by omega)]
  show (if 0 ≤ i ∧ i < hI (sI h 52 p.toNat v) 47 24 then hI (sI h 52 p.toNat v) 52 i.toNat else 0) = (if i = p then v else if 0 ≤ i ∧ i < hI h 47 24 then hI h 52 i.toNat else 0)
  rw [e0]
  by_cases e : i = p
  · rw [if_pos e, if_pos (by omega), hI_sI, if_pos ⟨rfl, by omega⟩]
  · rw [if_neg e]
    by_cases q : 0 ≤ i ∧ i < hI h 47 24
    · rw [if_pos q, if_pos q, hI_sI, if_neg (by omega)]
    · rw [if_neg q, if_neg q]
theorem sM_set {h : Hp} {l v : Int} (hl : 0 ≤ l ∧ l < 4) : sM (sI h 54 l.toNat v) = upv (sM h) l v := by
  funext i
  show (if 0 ≤ i ∧ i < 4 then hI (sI h 54 l.toNat v) 54 i.toNat else 0) = (if i = l then v else if 0 ≤ i ∧ i < 4 then hI h 54 i.toNat else 0)
  by_cases e : i = l
  · rw [if_pos e, if_pos (by omega), hI_sI, if_pos ⟨rfl, by omega⟩]
  · rw [if_neg e]
    by_cases q : 0 ≤ i ∧ i < 4
    · rw [if_pos q, if_pos q, hI_sI, if_neg (by omega)]
    · rw [if_neg q, if_neg q]
theorem GM_setH {h : Hp} {σ : Sg} (am : AM h σ) {p v : Int} (hp : 0 ≤ p ∧ p < gP (sG σ)) : GM (sI h 52 p.toNat v) = gEH (sG σ) p v := by
  obtain ⟨-, -, -, -, ⟨g1, g2, g3, g4, g5, g6⟩, -, -, -⟩ := am
  unfold GM gEH
  rw [hM_set (by rw [g1]; exact hp), hI_sI, if_neg (by omega), hI_sI, if_neg (by omega), g1, g2, g4, ← g5]
  congr 3
theorem GM_setS {h : Hp} {σ : Sg} (am : AM h σ) {l v : Int} (hl : 0 ≤ l ∧ l < 4) : GM (sI h 54 l.toNat v) = gES (sG σ) l v := by
  obtain ⟨-, -, -, -, ⟨g1, g2, g3, g4, g5, g6⟩, -, -, -⟩ := am
  unfold GM gES
  rw [sM_set hl, hI_sI, if_neg (by omega), hI_sI, if_neg (by omega), g1, g2, ← g4, g5]
  congr 2
theorem gEH_b {G : Gdn} (g : GOK G) (hp : 0 < gP G) {p v : Int} (hv : 0 ≤ v ∧ v ≤ 99) : GB2 (gEH G p v) := by
  have := g.b
  exact ⟨by show 4 ≤ gP G ∧ gP G ≤ 24 ∧ gP G % 2 = 0; omega, by show 1 ≤ gA G ∧ 2 * gA G < gP G; omega, fun i => by
    show 0 ≤ upv (gH G) p v i ∧ upv (gH G) p v i ≤ 99
    unfold upv
    split
    · exact hv
    · exact g.h i, g.s⟩
theorem gES_b {G : Gdn} (g : GOK G) (hp : 0 < gP G) {l v : Int} (hv : 0 ≤ v ∧ v ≤ 99) : GB2 (gES G l v) := by
  have := g.b
  exact ⟨by show 4 ≤ gP G ∧ gP G ≤ 24 ∧ gP G % 2 = 0; omega, by show 1 ≤ gA G ∧ 2 * gA G < gP G; omega, g.h, fun i => by
    show 0 ≤ upv (gS G) l v i ∧ upv (gS G) l v i ≤ 99
    unfold upv
    split
    · exact hv
    · exact g.s i⟩
theorem gap_S {G : Gdn} {l v p : Int} (hl : 0 ≤ l ∧ l < 4) : gapF (gES G l v) p = gapF G p - (if l % 2 = 0 then -1 else 1) * gS G l + (if l % 2 = 0 then -1 else 1) * v := by
  unfold gapF
  show ggap (gH G) (gP G) (gA G) p - lnF (gES G l v) = _
  unfold lnF
  show ggap (gH G) (gP G) (gA G) p - (upv (gS G) l v 0 + upv (gS G) l v 2 - upv (gS G) l v 1 - upv (gS G) l v 3) = _
  rcases (show l = 0 ∨ l = 1 ∨ l = 2 ∨ l = 3 by omega) with rfl | rfl | rfl | rfl
  · show ggap (gH G) (gP G) (gA G) p - (v + gS G 2 - gS G 1 - gS G 3) = ggap (gH G) (gP G) (gA G) p - (gS G 0 + gS G 2 - gS G 1 - gS G 3) - (-1) * gS G 0 + (-1) * v; omega
  · show ggap (gH G) (gP G) (gA G) p - (gS G 0 + gS G 2 - v - gS G 3) = ggap (gH G) (gP G) (gA G) p - (gS G 0 + gS G 2 - gS G 1 - gS G 3) - 1 * gS G 1 + 1 * v; omega
  · show ggap (gH G) (gP G) (gA G) p - (gS G 0 + v - gS G 1 - gS G 3) = ggap (gH G) (gP G) (gA G) p - (gS G 0 + gS G 2 - gS G 1 - gS G 3) - (-1) * gS G 2 + (-1) * v; omega
  · show ggap (gH G) (gP G) (gA G) p - (gS G 0 + gS G 2 - gS G 1 - v) = ggap (gH G) (gP G) (gA G) p - (gS G 0 + gS G 2 - gS G 1 - gS G 3) - 1 * gS G 3 + 1 * v; omega
theorem pts_ne {P A t : Int} (hP : P % 2 = 0) (hA : 1 ≤ A ∧ 2 * A < P) (ht : 0 ≤ t ∧ t < P) : ptB P A t 0 ≠ ptB P A t 1 ∧ ptB P A t 0 ≠ ptB P A t 2 ∧ ptB P A t 0 ≠ ptB P A t 3 ∧ ptB P A t 1 ≠ ptB P A t 2 ∧ ptB P A t 1 ≠ ptB P A t 3 ∧ ptB P A t 2 ≠ ptB P A t 3 := by
  have e0 : ptB P A t 0 = t := rfl
  have e1 : ptB P A t 1 = arnd P (t + A) := rfl
  have e2 : ptB P A t 2 = arnd P (t + P / 2) := rfl
  have e3 : ptB P A t 3 = arnd P (arnd P (t + A) + P / 2) := rfl
  rw [e0, e1, e2, e3]
  unfold arnd
  repeat' split
  all_goals omega
theorem gap_H {G : Gdn} {q v p : Int} (hP : gP G % 2 = 0) (hA : 1 ≤ gA G ∧ 2 * gA G < gP G) (hp : 0 ≤ p ∧ p < gP G) : gapF (gEH G q v) p = gapF G p - slp (gP G) (gA G) p q * gH G q + slp (gP G) (gA G) p q * v := by
  have hn := pts_ne hP hA hp
  rw [gap_rch, gap_rch]
  have r0 : ∀ l, rchF (gEH G q v) p l = upv (gH G) q v (ptB (gP G) (gA G) p l) - gS G l := fun l => rfl
  rw [r0, r0, r0, r0]
  unfold rchF slp upv
  generalize ptB (gP G) (gA G) p 0 = x0 at *
  generalize ptB (gP G) (gA G) p 1 = x1 at *
  generalize ptB (gP G) (gA G) p 2 = x2 at *
  generalize ptB (gP G) (gA G) p 3 = x3 at *
  by_cases c0 : x0 = q
  · subst c0
    rw [if_pos rfl, if_neg (by omega), if_neg (by omega), if_neg (by omega), if_pos rfl]
    omega
  rw [if_neg c0, if_neg c0]
  by_cases c1 : x1 = q
  · subst c1
    rw [if_pos rfl, if_neg (by omega), if_neg (by omega), if_pos rfl]
    omega
  rw [if_neg c1, if_neg c1]
  by_cases c2 : x2 = q
  · subst c2
    rw [if_pos rfl, if_neg (by omega), if_pos rfl]
    omega
  rw [if_neg c2, if_neg c2]
  by_cases c3 : x3 = q
  · subst c3
    rw [if_pos rfl, if_pos rfl]
    omega
  rw [if_neg c3, if_neg c3]
  omega

set_option maxRecDepth 20000 in
theorem S_X11_shorts {X : Cx} {h : Hp} {σ : Sg} (am : AM h σ) (o : SOK σ) {l w : Int} (hl : InR l) (hw : InR w) : Spec X mX11_shorts 60 [.ref (adr X 47), .int (iI l), .int (iI w)] h (fun rv h' => rv = some (.int (iI (qShorts σ l w))) ∧ AM h' σ ∧ sameC h h') := by
  refine spec_wp (Nat.le_of_ble_eq_true rfl) (by decide +kernel) ?_
  refine wp_loc [(0, .ref (adr X 47)), (1, .int (iI l)), (2, .int (iI w))] ⟨rfl, rfl, rfl, trivial⟩ ?_
  refine wp_aload_n dX11_shorts_0 rfl ?_
  refine wp_iconst dX11_shorts_1 ?_
  refine wp_putI dX11_shorts_2 plX11_95 rfl rfl ?_
  have k0 : KM h (sI h 47 0 0) := KM.sI (by unfold SMx; omega)
  have am := am.km k0
  generalize sI h 47 0 0 = h0 at *
  have gk := o.2.2.2.1
  have gb := gk.b
  have gkb := gk.2.1
  have e4 : hI h0 47 24 = gP (sG σ) := am.2.2.2.2.1.1
  have e5 : hI h0 47 26 = gA (sG σ) := am.2.2.2.2.1.2.1
  have e6 : hI h0 47 27 = gK (sG σ) := am.2.2.2.2.1.2.2.1
  have em : GM h0 = gE (sG σ) := am.gm
  have ep : gP (GM h0) = gP (sG σ) := e4
  have hr := o.2.2.2.2.1
  refine wp_aload_n dX11_shorts_5 rfl ?_
  refine wp_iload_n dX11_shorts_6 rfl ?_
  refine wp_callVp dX11_shorts_7 mlX11_293 mvX11_isLeg (S_X11_isLeg (by omega) (by first | assumption | (unfold InR; omega))) rfl rfl (by decide) (by decide) rfl rfl rfl (Nat.le_of_ble_eq_true rfl) ?_
  refine wp_ifeqb 38 dX11_shorts_10 (by decide) (fun c10 => ?_) (fun c10 => ?_)
  · refine wp_ldcw (z := -1000000) dX11_shorts_38 kcX11_313 ?_
    exact wp_iret dX11_shorts_41 rfl (⟨vi (by unfold qShorts; rw [if_neg (by omega)]), am, k0.C⟩)
  · refine wp_iload_n dX11_shorts_13 rfl ?_
    refine wp_i2lI dX11_shorts_14 (by first | assumption | (unfold InR; omega)) ?_
    refine wp_lconst (v := 0) dX11_shorts_15 rfl ?_
    refine wp_ldc2 (v := 2) dX11_shorts_16 klX11_324 ?_
    refine wp_callSp dX11_shorts_19 mlX11_219 msX11_isIn (S_X11_isIn (a := w) (b := 0) (c := 2) (by first | (exact InR.L (by assumption)) | (unfold InL; omega)) (by unfold InL; omega) (by unfold InL; omega)) rfl rfl (by decide) (by decide) (Nat.le_of_ble_eq_true rfl) ?_
    refine wp_ifeqb 38 dX11_shorts_22 (by decide) (fun c22 => ?_) (fun c22 => ?_)
    · refine wp_ldcw (z := -1000000) dX11_shorts_38 kcX11_313 ?_
      exact wp_iret dX11_shorts_41 rfl (⟨vi (by unfold qShorts; rw [if_neg (by omega)]), am, k0.C⟩)
    · refine wp_aload_n dX11_shorts_25 rfl ?_
      refine wp_aload_n dX11_shorts_26 rfl ?_
      refine wp_getC dX11_shorts_27 flX11_43 rfl rfl ?_
      refine wp_iload_n dX11_shorts_30 rfl ?_
      refine wp_iload_n dX11_shorts_31 rfl ?_
      refine wp_callVp dX11_shorts_32 mlX11_363 mvX11_fitsOf (S_X11_fitsOf (b := 54) (n0 := 4) (P := gP (sG σ)) (γ := fun v => gapF (gES (sG σ) l v)) (R := sR_ σ) rfl (Or.inr rfl) (by omega) hw (am.rk o) (fun v v0 v1 => by rw [GM_setS am (by omega)]; exact ⟨gES_b gk (by omega) ⟨v0, v1⟩, rfl, rfl⟩) rfl) rfl rfl (by decide) (by decide) rfl rfl rfl (Nat.le_of_ble_eq_true rfl) ?_
      refine wp_goto 41 dX11_shorts_35 (by decide) ?_
      exact wp_iret dX11_shorts_41 rfl (⟨vi (by unfold qShorts; rw [if_pos (by omega)]; exact fit_fold (γ := fun v => gapF (gES (sG σ) l v)) (B := fun q => gapF (sG σ) q.1 - (if l % 2 = 0 then -1 else 1) * gS (sG σ) l) (S := fun _ => if l % 2 = 0 then -1 else 1) (fun q hq => ⟨by show -1 ≤ (if l % 2 = 0 then (-1 : Int) else 1) ∧ (if l % 2 = 0 then (-1 : Int) else 1) ≤ 1; split <;> omega, by have := hr.2 q hq; omega⟩) (fun q hq v v0 v1 => gap_S (by omega)) w), am, k0.C⟩)

set_option maxRecDepth 20000 in
theorem S_X11_heights {X : Cx} {h : Hp} {σ : Sg} (am : AM h σ) (o : SOK σ) {p w : Int} (hp : InR p) (hw : InR w) : Spec X mX11_heights 60 [.ref (adr X 47), .int (iI p), .int (iI w)] h (fun rv h' => rv = some (.int (iI (qHeights σ p w))) ∧ AM h' σ ∧ sameC h h') := by
  refine spec_wp (Nat.le_of_ble_eq_true rfl) (by decide +kernel) ?_
  refine wp_loc [(0, .ref (adr X 47)), (1, .int (iI p)), (2, .int (iI w))] ⟨rfl, rfl, rfl, trivial⟩ ?_
  refine wp_aload_n dX11_heights_0 rfl ?_
  refine wp_iconst dX11_heights_1 ?_
  refine wp_putI dX11_heights_2 plX11_95 rfl rfl ?_
  have k0 : KM h (sI h 47 0 0) := KM.sI (by unfold SMx; omega)
  have am := am.km k0
  generalize sI h 47 0 0 = h0 at *
  have gk := o.2.2.2.1
  have gb := gk.b
  have gkb := gk.2.1
  have e4 : hI h0 47 24 = gP (sG σ) := am.2.2.2.2.1.1
  have e5 : hI h0 47 26 = gA (sG σ) := am.2.2.2.2.1.2.1
  have e6 : hI h0 47 27 = gK (sG σ) := am.2.2.2.2.1.2.2.1
  have em : GM h0 = gE (sG σ) := am.gm
  have ep : gP (GM h0) = gP (sG σ) := e4
  have hr := o.2.2.2.2.1
  refine wp_aload_n dX11_heights_5 rfl ?_
  refine wp_iload_n dX11_heights_6 rfl ?_
  refine wp_callVp dX11_heights_7 mlX11_290 mvX11_isTurning (S_X11_isTurning (by omega) (by first | assumption | (unfold InR; omega))) rfl rfl (by decide) (by decide) rfl rfl rfl (Nat.le_of_ble_eq_true rfl) ?_
  refine wp_ifeqb 38 dX11_heights_10 (by decide) (fun c10 => ?_) (fun c10 => ?_)
  · refine wp_ldcw (z := -1000000) dX11_heights_38 kcX11_313 ?_
    exact wp_iret dX11_heights_41 rfl (⟨vi (by unfold qHeights; rw [if_neg (by omega)]), am, k0.C⟩)
  · refine wp_iload_n dX11_heights_13 rfl ?_
    refine wp_i2lI dX11_heights_14 (by first | assumption | (unfold InR; omega)) ?_
    refine wp_lconst (v := 0) dX11_heights_15 rfl ?_
    refine wp_ldc2 (v := 2) dX11_heights_16 klX11_324 ?_
    refine wp_callSp dX11_heights_19 mlX11_219 msX11_isIn (S_X11_isIn (a := w) (b := 0) (c := 2) (by first | (exact InR.L (by assumption)) | (unfold InL; omega)) (by unfold InL; omega) (by unfold InL; omega)) rfl rfl (by decide) (by decide) (Nat.le_of_ble_eq_true rfl) ?_
    refine wp_ifeqb 38 dX11_heights_22 (by decide) (fun c22 => ?_) (fun c22 => ?_)
    · refine wp_ldcw (z := -1000000) dX11_heights_38 kcX11_313 ?_
      exact wp_iret dX11_heights_41 rfl (⟨vi (by unfold qHeights; rw [if_neg (by omega)]), am, k0.C⟩)
    · refine wp_aload_n dX11_heights_25 rfl ?_
      refine wp_aload_n dX11_heights_26 rfl ?_
      refine wp_getC dX11_heights_27 flX11_37 rfl rfl ?_
      refine wp_iload_n dX11_heights_30 rfl ?_
      refine wp_iload_n dX11_heights_31 rfl ?_
      refine wp_callVp dX11_heights_32 mlX11_363 mvX11_fitsOf (S_X11_fitsOf (b := 52) (n0 := 24) (P := gP (sG σ)) (γ := fun v => gapF (gEH (sG σ) p v)) (R := sR_ σ) rfl (Or.inl rfl) (by omega) hw (am.rk o) (fun v v0 v1 => by rw [GM_setH am (by omega)]; exact ⟨gEH_b gk (by omega) ⟨v0, v1⟩, rfl, rfl⟩) rfl) rfl rfl (by decide) (by decide) rfl rfl rfl (Nat.le_of_ble_eq_true rfl) ?_
      refine wp_goto 41 dX11_heights_35 (by decide) ?_
      exact wp_iret dX11_heights_41 rfl (⟨vi (by unfold qHeights; rw [if_pos (by omega)]; exact fit_fold (γ := fun v => gapF (gEH (sG σ) p v)) (B := fun q => gapF (sG σ) q.1 - slp (gP (sG σ)) (gA (sG σ)) q.1 p * gH (sG σ) p) (S := fun q => slp (gP (sG σ)) (gA (sG σ)) q.1 p) (fun q hq => ⟨slp_b _ _ _ _, by have := hr.2 q hq; omega⟩) (fun q hq v v0 v1 => gap_H (by omega) (by omega) (by have := hr.2 q hq; omega)) w), am, k0.C⟩)

