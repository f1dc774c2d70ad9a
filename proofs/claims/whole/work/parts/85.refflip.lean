/-! the reference: FLIP -/
def kl : Nat → Nat → List Nat
  | 0, _ => []
  | n + 1, k => k :: kl n (k + 1)
def gfF (lf : (Int → Int) → Int → Int × Int → Int × Int) : Nat → Int → Nat → Int → (Int → Int) → Int × Int → Int × Int
  | 0, _, _, dg, s, st => lf s dg st
  | r + 1, leg, u, dg, s, st => (kl 4 0).foldl (fun st k => if u.testBit k = true then st else gfF lf r (leg + 1) (u ||| 2 ^ k) (10 * dg + k) (upv s leg k) st) st
theorem gfF_s (lf : (Int → Int) → Int → Int × Int → Int × Int) (r : Nat) (leg : Int) (u : Nat) (dg : Int) (s : Int → Int) (st : Int × Int) : gfF lf (r + 1) leg u dg s st = (kl 4 0).foldl (fun st k => if u.testBit k = true then st else gfF lf r (leg + 1) (u ||| 2 ^ k) (10 * dg + k) (upv s leg k) st) st := rfl
def ctS (G : Gdn) (s : Int → Int) : Int := cntF (stb (gapL G (gS G (s 0) + gS G (s 2) - gS G (s 1) - gS G (s 3))) (gP G)) (gP G).toNat 0 0
def lfG (G : Gdn) (s : Int → Int) (dg : Int) (st : Int × Int) : Int × Int := if st.1 ≠ -1 ∧ ctS G s ≤ st.2 then st else (dg, ctS G s)
theorem bit_has : ∀ (u : Fin 16) (k : Fin 4), (iAnd (iShr (u : Nat) (k : Nat)) 1 = 1) ↔ Nat.testBit u k = true := by decide +kernel
theorem bit_or : ∀ (u : Fin 16) (k : Fin 4), iOr (u : Nat) (iShl 1 (k : Nat)) = (((u : Nat) ||| 2 ^ (k : Nat) : Nat) : Int) ∧ (u : Nat) ||| 2 ^ (k : Nat) < 16 := by decide +kernel
/-! in the order of the numbers -/
def stp (G : Gdn) (y : Int) (st : Int × Int) : Int × Int := if (y / 16 ≠ y / 4 % 4 ∧ y / 16 ≠ y % 4 ∧ y / 4 % 4 ≠ y % 4) ∧ st.2 < fCt G y then (fDg y, fCt G y) else st
theorem flF_L (G : Gdn) : ∀ (n : Nat) (y f m : Int), flF G n y f m = (rgL n y).foldl (fun st y => stp G y st) (f, m)
  | 0, y, f, m => rfl
  | n + 1, y, f, m => by
    rw [flF, rgL, List.foldl_cons]
    unfold stp
    dsimp only
    split
    · rename_i h; rw [flF_L G n]; unfold stp; rfl
    · rename_i h; rw [flF_L G n]; unfold stp; rfl
theorem fold_flt {α β : Type} {f : β → α → β} {c : α → Bool} (h : ∀ st x, c x = false → f st x = st) : ∀ (l : List α) (st : β), l.foldl f st = (l.filter c).foldl f st
  | [], st => rfl
  | x :: l, st => by
    rw [List.foldl_cons, List.filter_cons]
    by_cases e : c x = true
    · rw [if_pos e, List.foldl_cons, fold_flt h l]
    · rw [if_neg e, h st x (by cases hc : c x with
        | true => exact absurd hc e
        | false => rfl), fold_flt h l]
def okY (y : Int) : Bool := decide (y / 16 ≠ y / 4 % 4 ∧ y / 16 ≠ y % 4 ∧ y / 4 % 4 ≠ y % 4)
def PLq : List (Int × Int × Int × Int) := [(0, 1, 2, 3), (0, 1, 3, 2), (0, 2, 1, 3), (0, 2, 3, 1), (0, 3, 1, 2), (0, 3, 2, 1), (1, 0, 2, 3), (1, 0, 3, 2), (1, 2, 0, 3), (1, 2, 3, 0), (1, 3, 0, 2), (1, 3, 2, 0), (2, 0, 1, 3), (2, 0, 3, 1), (2, 1, 0, 3), (2, 1, 3, 0), (2, 3, 0, 1), (2, 3, 1, 0), (3, 0, 1, 2), (3, 0, 2, 1), (3, 1, 0, 2), (3, 1, 2, 0), (3, 2, 0, 1), (3, 2, 1, 0)]
def cdq (q : Int × Int × Int × Int) : Int := 16 * q.1 + 4 * q.2.1 + q.2.2.1
def sq (q : Int × Int × Int × Int) : Int → Int := upv (upv (upv (upv (fun _ => 0) 0 q.1) 1 q.2.1) 2 q.2.2.1) 3 q.2.2.2
def dgq (q : Int × Int × Int × Int) : Int := 1000 * q.1 + 100 * q.2.1 + 10 * q.2.2.1 + q.2.2.2
theorem flt_Y : (rgL 64 0).filter okY = PLq.map cdq := by decide +kernel
theorem pl_ok : ∀ q ∈ PLq, okY (cdq q) = true ∧ fDg (cdq q) = dgq q ∧ 0 ≤ dgq q ∧ cdq q / 16 = q.1 ∧ cdq q / 4 % 4 = q.2.1 ∧ cdq q % 4 = q.2.2.1 ∧ 6 - cdq q / 16 - cdq q / 4 % 4 - cdq q % 4 = q.2.2.2 := by decide +kernel
theorem pl_ct (G : Gdn) {q : Int × Int × Int × Int} (hq : q ∈ PLq) : fCt G (cdq q) = ctS G (sq q) := by
  obtain ⟨-, -, -, h1, h2, h3, h4⟩ := pl_ok q hq
  unfold fCt ctS fLn
  rw [h1, h2, h3]
  have e : 6 - q.1 - q.2.1 - q.2.2.1 = q.2.2.2 := by omega
  rw [e]
  rfl
theorem gl1_7 (lf : (Int → Int) → Int → Int × Int → Int × Int) (dg : Int) (s : Int → Int) (st : Int × Int) : gfF lf 1 3 7 dg s st = lf (upv s 3 3) (10 * dg + 3) st := rfl
theorem gl1_11 (lf : (Int → Int) → Int → Int × Int → Int × Int) (dg : Int) (s : Int → Int) (st : Int × Int) : gfF lf 1 3 11 dg s st = lf (upv s 3 2) (10 * dg + 2) st := rfl
theorem gl1_13 (lf : (Int → Int) → Int → Int × Int → Int × Int) (dg : Int) (s : Int → Int) (st : Int × Int) : gfF lf 1 3 13 dg s st = lf (upv s 3 1) (10 * dg + 1) st := rfl
theorem gl1_14 (lf : (Int → Int) → Int → Int × Int → Int × Int) (dg : Int) (s : Int → Int) (st : Int × Int) : gfF lf 1 3 14 dg s st = lf (upv s 3 0) (10 * dg + 0) st := rfl
theorem gl2_3 (lf : (Int → Int) → Int → Int × Int → Int × Int) (dg : Int) (s : Int → Int) (st : Int × Int) : gfF lf 2 2 3 dg s st = gfF lf 1 3 11 (10 * dg + 3) (upv s 2 3) (gfF lf 1 3 7 (10 * dg + 2) (upv s 2 2) st) := rfl
theorem gl2_5 (lf : (Int → Int) → Int → Int × Int → Int × Int) (dg : Int) (s : Int → Int) (st : Int × Int) : gfF lf 2 2 5 dg s st = gfF lf 1 3 13 (10 * dg + 3) (upv s 2 3) (gfF lf 1 3 7 (10 * dg + 1) (upv s 2 1) st) := rfl
theorem gl2_6 (lf : (Int → Int) → Int → Int × Int → Int × Int) (dg : Int) (s : Int → Int) (st : Int × Int) : gfF lf 2 2 6 dg s st = gfF lf 1 3 14 (10 * dg + 3) (upv s 2 3) (gfF lf 1 3 7 (10 * dg + 0) (upv s 2 0) st) := rfl
theorem gl2_9 (lf : (Int → Int) → Int → Int × Int → Int × Int) (dg : Int) (s : Int → Int) (st : Int × Int) : gfF lf 2 2 9 dg s st = gfF lf 1 3 13 (10 * dg + 2) (upv s 2 2) (gfF lf 1 3 11 (10 * dg + 1) (upv s 2 1) st) := rfl
theorem gl2_10 (lf : (Int → Int) → Int → Int × Int → Int × Int) (dg : Int) (s : Int → Int) (st : Int × Int) : gfF lf 2 2 10 dg s st = gfF lf 1 3 14 (10 * dg + 2) (upv s 2 2) (gfF lf 1 3 11 (10 * dg + 0) (upv s 2 0) st) := rfl
theorem gl2_12 (lf : (Int → Int) → Int → Int × Int → Int × Int) (dg : Int) (s : Int → Int) (st : Int × Int) : gfF lf 2 2 12 dg s st = gfF lf 1 3 14 (10 * dg + 1) (upv s 2 1) (gfF lf 1 3 13 (10 * dg + 0) (upv s 2 0) st) := rfl
theorem gl3_1 (lf : (Int → Int) → Int → Int × Int → Int × Int) (dg : Int) (s : Int → Int) (st : Int × Int) : gfF lf 3 1 1 dg s st = gfF lf 2 2 9 (10 * dg + 3) (upv s 1 3) (gfF lf 2 2 5 (10 * dg + 2) (upv s 1 2) (gfF lf 2 2 3 (10 * dg + 1) (upv s 1 1) st)) := rfl
theorem gl3_2 (lf : (Int → Int) → Int → Int × Int → Int × Int) (dg : Int) (s : Int → Int) (st : Int × Int) : gfF lf 3 1 2 dg s st = gfF lf 2 2 10 (10 * dg + 3) (upv s 1 3) (gfF lf 2 2 6 (10 * dg + 2) (upv s 1 2) (gfF lf 2 2 3 (10 * dg + 0) (upv s 1 0) st)) := rfl
theorem gl3_4 (lf : (Int → Int) → Int → Int × Int → Int × Int) (dg : Int) (s : Int → Int) (st : Int × Int) : gfF lf 3 1 4 dg s st = gfF lf 2 2 12 (10 * dg + 3) (upv s 1 3) (gfF lf 2 2 6 (10 * dg + 1) (upv s 1 1) (gfF lf 2 2 5 (10 * dg + 0) (upv s 1 0) st)) := rfl
theorem gl3_8 (lf : (Int → Int) → Int → Int × Int → Int × Int) (dg : Int) (s : Int → Int) (st : Int × Int) : gfF lf 3 1 8 dg s st = gfF lf 2 2 12 (10 * dg + 2) (upv s 1 2) (gfF lf 2 2 10 (10 * dg + 1) (upv s 1 1) (gfF lf 2 2 9 (10 * dg + 0) (upv s 1 0) st)) := rfl
theorem gl4_0 (lf : (Int → Int) → Int → Int × Int → Int × Int) (dg : Int) (s : Int → Int) (st : Int × Int) : gfF lf 4 0 0 dg s st = gfF lf 3 1 8 (10 * dg + 3) (upv s 0 3) (gfF lf 3 1 4 (10 * dg + 2) (upv s 0 2) (gfF lf 3 1 2 (10 * dg + 1) (upv s 0 1) (gfF lf 3 1 1 (10 * dg + 0) (upv s 0 0) st))) := rfl
theorem gf_pl (G : Gdn) (st : Int × Int) : gfF (lfG G) 4 0 0 0 (fun _ => 0) st = PLq.foldl (fun st q => lfG G (sq q) (dgq q) st) st := by
  simp only [gl4_0, gl3_1, gl3_2, gl3_4, gl3_8, gl2_3, gl2_5, gl2_6, gl2_9, gl2_10, gl2_12, gl1_7, gl1_11, gl1_13, gl1_14]
  simp only [PLq, List.foldl_cons, List.foldl_nil, sq, dgq]
  rfl
theorem ct_nn (G : Gdn) (s : Int → Int) : 0 ≤ ctS G s := (cntF_b _ _ _ _).1
theorem fl_step (G : Gdn) : ∀ (l : List (Int × Int × Int × Int)) (st : Int × Int), (∀ q ∈ l, q ∈ PLq) → st.1 ≠ -1 → l.foldl (fun st q => lfG G (sq q) (dgq q) st) st = (l.map cdq).foldl (fun st y => stp G y st) st
  | [], st, h, hs => rfl
  | q :: l, st, h, hs => by
    have hq := h q List.mem_cons_self
    obtain ⟨h1, h2, h3, -⟩ := pl_ok q hq
    rw [List.map_cons, List.foldl_cons, List.foldl_cons]
    have e : lfG G (sq q) (dgq q) st = stp G (cdq q) st := by
      unfold lfG stp
      rw [pl_ct G hq, h2]
      unfold okY at h1
      rw [decide_eq_true_iff] at h1
      by_cases c : st.2 < ctS G (sq q)
      · rw [if_neg (by omega), if_pos ⟨h1, c⟩]
      · rw [if_pos ⟨hs, by omega⟩, if_neg (fun z => c z.2)]
    have e1 : (lfG G (sq q) (dgq q) st).1 ≠ -1 := by
      unfold lfG
      split
      · exact hs
      · show dgq q ≠ -1; omega
    rw [← e]
    exact fl_step G l _ (fun x hx => h x (List.mem_cons_of_mem _ hx)) e1
theorem flip_eq (G : Gdn) (m : Int) : gfF (lfG G) 4 0 0 0 (fun _ => 0) (-1, m) = flF G 64 0 (-1) (-1) := by
  rw [gf_pl, flF_L, fold_flt (c := okY) (fun st y hy => by
    unfold okY at hy
    rw [decide_eq_false_iff_not] at hy
    exact if_neg (fun z => hy z.1)), flt_Y]
  obtain ⟨q, l, hl⟩ : ∃ q l, PLq = q :: l := ⟨_, _, rfl⟩
  have hq : q ∈ PLq := by rw [hl]; exact List.mem_cons_self
  obtain ⟨h1, h2, h3, -⟩ := pl_ok q hq
  have hn := ct_nn G (sq q)
  unfold okY at h1
  rw [decide_eq_true_iff] at h1
  rw [hl, List.map_cons, List.foldl_cons, List.foldl_cons]
  have e1 : lfG G (sq q) (dgq q) (-1, m) = (dgq q, ctS G (sq q)) := if_neg (fun z => z.1 rfl)
  have e2 : stp G (cdq q) (-1, -1) = (dgq q, ctS G (sq q)) := by
    unfold stp
    rw [pl_ct G hq, h2, if_pos ⟨h1, by show (-1 : Int) < _; omega⟩]
  rw [e1, e2]
  exact fl_step G l _ (fun x hx => by rw [hl]; exact List.mem_cons_of_mem _ hx) (by show dgq q ≠ -1; omega)

set_option maxRecDepth 20000 in
theorem S_X11_has {X : Cx} {h : Hp} {u k : Int} : Spec X mX11_has 0 [.int (iI u), .int (iI k)] h (fun rv h' => rv = some (.int (iI (b2i (iAnd (iShr u k) 1 = 1)))) ∧ h' = h) := by
  refine spec_wp (Nat.le_of_ble_eq_true rfl) (by decide +kernel) ?_
  refine wp_loc [(0, .int (iI u)), (1, .int (iI k))] ⟨rfl, rfl, trivial⟩ ?_
  refine wp_iload_n dX11_has_0 rfl ?_
  refine wp_iload_n dX11_has_1 rfl ?_
  refine wp_ishr dX11_has_2 ?_
  refine wp_iconst dX11_has_3 ?_
  refine wp_iand dX11_has_4 ?_
  refine wp_iconst dX11_has_5 ?_
  refine wp_icmpne 13 dX11_has_6 (by decide) (inR_of _) (by unfold InR; omega) (fun c6 => ?_) (fun c6 => ?_)
  · refine wp_iconst dX11_has_13 ?_
    exact wp_zret dX11_has_14 rfl (by omega) (⟨vb0 c6, rfl⟩)
  · refine wp_iconst dX11_has_9 ?_
    refine wp_goto 14 dX11_has_10 (by decide) ?_
    exact wp_zret dX11_has_14 rfl (by omega) (⟨vb1 c6, rfl⟩)

def SFl (c j : Nat) : Prop := SST c j ∨ (c = 54 ∧ j < 4) ∨ (c = 47 ∧ (j = 45 ∨ j = 46))
/-- while it is flipped: the garden but for its legs, the legs as they were, the best so far -/
def FLP (h : Hp) (G : Gdn) (st : Int × Int) : Prop := (hI h 47 24 = gP G ∧ hI h 47 26 = gA G ∧ hM h = gH G) ∧ (∀ l : Nat, l < 4 → hI h 66 l = gS G l) ∧ (∀ l : Nat, l < 4 → 0 ≤ hI h 54 l ∧ hI h 54 l ≤ 99) ∧ hI h 47 45 = st.1 ∧ (st.1 ≠ -1 → hI h 47 46 = st.2)
theorem FLP.gb {h : Hp} {G : Gdn} {st : Int × Int} (f : FLP h G st) (g : GOK G) (hp : 0 < gP G) : GB2 (GM h) := by
  have gb := g.b
  obtain ⟨⟨f1, f2, f3⟩, -, f5, -⟩ := f
  refine ⟨?_, ?_, fun i => ?_, fun l => ?_⟩
  · show 4 ≤ hI h 47 24 ∧ hI h 47 24 ≤ 24 ∧ hI h 47 24 % 2 = 0; rw [f1]; omega
  · show 1 ≤ hI h 47 26 ∧ 2 * hI h 47 26 < hI h 47 24; rw [f1, f2]; omega
  · show 0 ≤ hM h i ∧ hM h i ≤ 99; rw [f3]; exact g.h i
  · show 0 ≤ sM h l ∧ sM h l ≤ 99
    unfold sM
    split
    · exact f5 _ (by omega)
    · omega
theorem FLP.gap {h : Hp} {G : Gdn} {st : Int × Int} (f : FLP h G st) {s : Int → Int} (hs : ∀ l : Nat, l < 4 → hI h 54 l = gS G (s l)) : gapF (GM h) = gapL G (gS G (s 0) + gS G (s 2) - gS G (s 1) - gS G (s 3)) := by
  obtain ⟨⟨f1, f2, f3⟩, -, -, -⟩ := f
  have e : ∀ l : Nat, l < 4 → sM h (l : Int) = gS G (s l) := fun l hl => by unfold sM; rw [if_pos (by omega)]; exact hs l hl
  have e0 := e 0 (by decide)
  have e1 := e 1 (by decide)
  have e2 := e 2 (by decide)
  have e3 := e 3 (by decide)
  funext p
  unfold gapF gapL lnF
  show ggap (hM h) (hI h 47 24) (hI h 47 26) p - (sM h 0 + sM h 2 - sM h 1 - sM h 3) = _
  rw [f1, f2, f3]
  have e0 : sM h 0 = gS G (s 0) := e0
  have e1 : sM h 1 = gS G (s 1) := e1
  have e2 : sM h 2 = gS G (s 2) := e2
  have e3 : sM h 3 = gS G (s 3) := e3
  rw [e0, e1, e2, e3]
theorem FLP.kp {h h' : Hp} {G : Gdn} {st : Int × Int} (f : FLP h G st) (k : Kp SST h h') : FLP h' G st := by
  obtain ⟨⟨f1, f2, f3⟩, f4, f5, f6, f7⟩ := f
  refine ⟨⟨by rw [k.1 47 24 (by unfold SST; omega)]; exact f1, by rw [k.1 47 26 (by unfold SST; omega)]; exact f2, by rw [hM_eq (h := h) (k.1 47 24 (by unfold SST; omega)) (fun i => k.1 52 i (by unfold SST; omega))]; exact f3⟩, fun l hl => by rw [k.1 66 l (by unfold SST; omega)]; exact f4 l hl, fun l hl => by rw [k.1 54 l (by unfold SST; omega)]; exact f5 l hl, by rw [k.1 47 45 (by unfold SST; omega)]; exact f6, fun q => by rw [k.1 47 46 (by unfold SST; omega)]; exact f7 q⟩
def FQ (h : Hp) (G : Gdn) (leg : Int) (st : Int × Int) (rv : Option Value) (h' : Hp) : Prop := rv = none ∧ FLP h' G st ∧ (∀ l : Nat, (l : Int) < leg → hI h' 54 l = hI h 54 l) ∧ Kp SFl h h'
theorem ctS_b (G : Gdn) (s : Int → Int) (hP : gP G ≤ 24) : 0 ≤ ctS G s ∧ ctS G s ≤ 24 := by
  have := cntF_b (stb (gapL G (gS G (s 0) + gS G (s 2) - gS G (s 1) - gS G (s 3))) (gP G)) (gP G).toNat 0 0
  unfold ctS
  omega
theorem lfG_b (G : Gdn) (s : Int → Int) (dg : Int) {st : Int × Int} (hd : 0 ≤ dg ∧ dg ≤ 100000) (h1 : -1 ≤ st.1 ∧ st.1 ≤ 100000) (hP : gP G ≤ 24) (h2 : -1000 ≤ st.2 ∧ st.2 ≤ 1000) : (-1 ≤ (lfG G s dg st).1 ∧ (lfG G s dg st).1 ≤ 100000) ∧ -1000 ≤ (lfG G s dg st).2 ∧ (lfG G s dg st).2 ≤ 1000 := by
  have := ctS_b G s hP
  unfold lfG
  split
  · exact ⟨h1, h2⟩
  · exact ⟨by dsimp only; omega, by dsimp only; omega⟩
theorem gfF_b (G : Gdn) (hP : gP G ≤ 24) : ∀ (r : Nat) (leg : Int) (u : Nat) (dg : Int) (s : Int → Int) (st : Int × Int), r ≤ 4 → (0 ≤ dg ∧ (dg + 1) * 10 ^ r ≤ 10000) → (-1 ≤ st.1 ∧ st.1 ≤ 100000) → (-1000 ≤ st.2 ∧ st.2 ≤ 1000) → (-1 ≤ (gfF (lfG G) r leg u dg s st).1 ∧ (gfF (lfG G) r leg u dg s st).1 ≤ 100000) ∧ -1000 ≤ (gfF (lfG G) r leg u dg s st).2 ∧ (gfF (lfG G) r leg u dg s st).2 ≤ 1000
  | 0, leg, u, dg, s, st, hr, hd, h1, h2 => lfG_b G s dg (by rw [Int.pow_zero] at hd; omega) h1 hP h2
  | r + 1, leg, u, dg, s, st, hr, hd, h1, h2 => by
    rw [gfF_s]
    have hf : ∀ (l : List Nat) (st : Int × Int), (∀ x ∈ l, x < 4) → (-1 ≤ st.1 ∧ st.1 ≤ 100000) → (-1000 ≤ st.2 ∧ st.2 ≤ 1000) → (-1 ≤ (l.foldl (fun st k => if u.testBit k = true then st else gfF (lfG G) r (leg + 1) (u ||| 2 ^ k) (10 * dg + k) (upv s leg k) st) st).1 ∧ (l.foldl (fun st k => if u.testBit k = true then st else gfF (lfG G) r (leg + 1) (u ||| 2 ^ k) (10 * dg + k) (upv s leg k) st) st).1 ≤ 100000) ∧ -1000 ≤ (l.foldl (fun st k => if u.testBit k = true then st else gfF (lfG G) r (leg + 1) (u ||| 2 ^ k) (10 * dg + k) (upv s leg k) st) st).2 ∧ (l.foldl (fun st k => if u.testBit k = true then st else gfF (lfG G) r (leg + 1) (u ||| 2 ^ k) (10 * dg + k) (upv s leg k) st) st).2 ≤ 1000 := by
      intro l
      induction l with
      | nil => intro st _ q1 q2; exact ⟨q1, q2⟩
      | cons x l ih =>
        intro st hl q1 q2
        have hx := hl x List.mem_cons_self
        rw [List.foldl_cons]
        refine ih _ (fun y hy => hl y (List.mem_cons_of_mem _ hy)) ?_ ?_
        · split
          · exact q1
          · exact (gfF_b G hP r (leg + 1) _ (10 * dg + x) _ st (by omega) ⟨by omega, by
              have e : (10 : Int) ^ (r + 1) = 10 ^ r * 10 := Int.pow_succ _ _
              have p0 : (0 : Int) ≤ 10 ^ r := by exact_mod_cast Nat.zero_le (10 ^ r)
              have h3 : (10 * dg + x + 1) * 10 ^ r ≤ ((dg + 1) * 10) * 10 ^ r := Int.mul_le_mul_of_nonneg_right (by omega) p0
              rw [e] at hd
              have h4 : (dg + 1) * 10 * 10 ^ r = (dg + 1) * (10 ^ r * 10) := by rw [Int.mul_assoc, Int.mul_comm 10]
              omega⟩ q1 q2).1
        · split
          · exact q2
          · exact (gfF_b G hP r (leg + 1) _ (10 * dg + x) _ st (by omega) ⟨by omega, by
              have e : (10 : Int) ^ (r + 1) = 10 ^ r * 10 := Int.pow_succ _ _
              have p0 : (0 : Int) ≤ 10 ^ r := by exact_mod_cast Nat.zero_le (10 ^ r)
              have h3 : (10 * dg + x + 1) * 10 ^ r ≤ ((dg + 1) * 10) * 10 ^ r := Int.mul_le_mul_of_nonneg_right (by omega) p0
              rw [e] at hd
              have h4 : (dg + 1) * 10 * 10 ^ r = (dg + 1) * (10 ^ r * 10) := by rw [Int.mul_assoc, Int.mul_comm 10]
              omega⟩ q1 q2).2
    exact hf _ st (fun x hx => by revert hx; show x ∈ [0, 1, 2, 3] → _; simp; omega) h1 h2

theorem dg10 {dg : Int} {r k : Nat} (h : 0 ≤ dg ∧ (dg + 1) * 10 ^ (r + 1) ≤ 10000) (hk : k < 4) : 0 ≤ 10 * dg + k ∧ (10 * dg + k + 1) * 10 ^ r ≤ 10000 := by
  refine ⟨by omega, ?_⟩
  have e : (10 : Int) ^ (r + 1) = 10 ^ r * 10 := Int.pow_succ _ _
  have p0 : (0 : Int) ≤ 10 ^ r := by exact_mod_cast Nat.zero_le (10 ^ r)
  have h3 : (10 * dg + k + 1) * 10 ^ r ≤ ((dg + 1) * 10) * 10 ^ r := Int.mul_le_mul_of_nonneg_right (by omega) p0
  have h2 := h.2
  rw [e] at h2
  have h4 : (dg + 1) * 10 * 10 ^ r = (dg + 1) * (10 ^ r * 10) := by rw [Int.mul_assoc, Int.mul_comm 10]
  omega
theorem FLP.leg {h : Hp} {G : Gdn} {st : Int × Int} {j : Nat} {v : Int} (f : FLP h G st) (hv : 0 ≤ v ∧ v ≤ 99) : FLP (sI h 54 j v) G st := by
  obtain ⟨⟨f1, f2, f3⟩, f4, f5, f6, f7⟩ := f
  refine ⟨⟨by rw [hI_sI, if_neg (by omega)]; exact f1, by rw [hI_sI, if_neg (by omega)]; exact f2, by rw [hM_eq (h := h) (by rw [hI_sI, if_neg (by omega)]) (fun i => by rw [hI_sI, if_neg (by omega)])]; exact f3⟩, fun l hl => by rw [hI_sI, if_neg (by omega)]; exact f4 l hl, fun l hl => ?_, by rw [hI_sI, if_neg (by omega)]; exact f6, fun q => by rw [hI_sI, if_neg (by omega)]; exact f7 q⟩
  rw [hI_sI]
  split
  · exact hv
  · exact f5 l hl

set_option maxRecDepth 20000 in
theorem S_X11_goFlip {X : Cx} {G : Gdn} : ∀ (r : Nat) (leg : Int) (u : Nat) (dg : Int) (s : Int → Int) (st : Int × Int) (h : Hp), GOK G → 0 < gP G → u < 16 → 0 ≤ leg → leg + r = 4 → (0 ≤ dg ∧ (dg + 1) * 10 ^ r ≤ 10000) → (-1 ≤ st.1 ∧ st.1 ≤ 100000) → (-1000 ≤ st.2 ∧ st.2 ≤ 1000) → FLP h G st → (∀ l : Nat, (l : Int) < leg → hI h 54 l = gS G (s l)) → Spec X mX11_goFlip (r + 30) [.ref (adr X 47), .int (iI leg), .int (iI ((u : Nat) : Int)), .int (iI dg)] h (FQ h G leg (gfF (lfG G) r leg u dg s st)) := by
  intro r
  induction r with
  | zero =>
    intro leg u dg s st h gk hP hu hl0 hlr hdg h1 h2 f hs
    obtain ⟨st2, hst⟩ : ∃ st2, st2 = gfF (lfG G) 0 leg u dg s st := ⟨_, rfl⟩
    rw [← hst]
    have gb := gk.b
    have hd9 : dg ≤ 10000 := by
      have p1 : (1 : Int) ≤ 10 ^ 0 := by exact_mod_cast Nat.one_le_pow _ 10 (by decide)
      have h3 : (dg + 1) * 1 ≤ (dg + 1) * 10 ^ 0 := Int.mul_le_mul_of_nonneg_left p1 (by omega)
      omega
    refine spec_wp (Nat.le_of_ble_eq_true rfl) (by decide +kernel) ?_
    refine wp_loc [(0, .ref (adr X 47)), (1, .int (iI leg)), (2, .int (iI ((u : Nat) : Int))), (3, .int (iI dg))] ⟨rfl, rfl, rfl, rfl, trivial⟩ ?_
    refine wp_iload_n dX11_goFlip_0 rfl ?_
    refine wp_iconst dX11_goFlip_1 ?_
    refine wp_icmpne 43 dX11_goFlip_2 (by decide) (by unfold InR; omega) (by unfold InR; omega) (fun c2 => ?_) (fun c2 => ?_)
    · exact absurd c2 (by omega)
    · refine wp_aload_n dX11_goFlip_5 rfl ?_
      refine wp_callV dX11_goFlip_6 mlX11_326 mvX11_layStands (S_X11_layStands (γ := gapF (GM h)) (P := gP G) (f.gb gk hP) rfl f.1.1.symm rfl) rfl rfl (by omega) (by decide) rfl rfl rfl (Nat.le_of_ble_eq_true rfl) ?_
      rintro rv h1 ⟨rfl, st1, kp1⟩
      have f1 := f.kp kp1
      have eg := f.gap (s := s) (fun l hl => hs l (by omega))
      have s35 : hI h1 47 35 = ctS G s := by
        rw [st1.1, eg]
        unfold ctS
        rw [cnt_L]
        omega
      have cb := ctS_b G s (by omega)
      refine wp_aload_n dX11_goFlip_9 rfl ?_
      refine wp_getI dX11_goFlip_10 flX11_398 rfl rfl ?_
      rw [f1.2.2.2.1]
      refine wp_iconst dX11_goFlip_13 ?_
      refine wp_icmpeq 29 dX11_goFlip_14 (by decide) (by unfold InR; omega) (by unfold InR; omega) (fun c14 => ?_) (fun c14 => ?_)
      · refine wp_aload_n dX11_goFlip_29 rfl ?_
        refine wp_iload_n dX11_goFlip_30 rfl ?_
        refine wp_putI dX11_goFlip_31 plX11_398 rfl rfl ?_
        refine wp_aload_n dX11_goFlip_34 rfl ?_
        refine wp_aload_n dX11_goFlip_35 rfl ?_
        refine wp_getI dX11_goFlip_36 flX11_317 rfl rfl ?_
        rw [hI_sI, if_neg (by omega), s35]
        refine wp_putI dX11_goFlip_39 plX11_401 rfl rfl ?_
        exact wp_ret dX11_goFlip_42 rfl (by
  have e2 : st2 = (dg, ctS G s) := by rw [hst]; exact if_neg (by omega)
  rw [e2]
  obtain ⟨⟨f1, f2, f3⟩, f4, f5, f6, f7⟩ := f1
  refine ⟨rfl, ⟨⟨?_, ?_, ?_⟩, fun l hl => ?_, fun l hl => ?_, ?_, fun q => hI_same⟩, fun l hl => ?_, ((kp1.mono (T := SFl) (fun c j q => Or.inl q)).tr (Kp.sI (Or.inr (Or.inr ⟨rfl, Or.inl rfl⟩)))).tr (Kp.sI (Or.inr (Or.inr ⟨rfl, Or.inr rfl⟩)))⟩
  · rw [hI_sI, if_neg (by omega), hI_sI, if_neg (by omega)]; exact f1
  · rw [hI_sI, if_neg (by omega), hI_sI, if_neg (by omega)]; exact f2
  · rw [hM_eq (h := h1) (by rw [hI_sI, if_neg (by omega), hI_sI, if_neg (by omega)]) (fun i => by rw [hI_sI, if_neg (by omega), hI_sI, if_neg (by omega)])]; exact f3
  · rw [hI_sI, if_neg (by omega), hI_sI, if_neg (by omega)]; exact f4 l hl
  · rw [hI_sI, if_neg (by omega), hI_sI, if_neg (by omega)]; exact f5 l hl
  · rw [hI_sI, if_neg (by omega), hI_same]
  · rw [hI_sI, if_neg (by omega), hI_sI, if_neg (by omega)]; exact kp1.1 54 l (by unfold SST; omega))
      · refine wp_aload_n dX11_goFlip_17 rfl ?_
        refine wp_getI dX11_goFlip_18 flX11_317 rfl rfl ?_
        rw [s35]
        refine wp_aload_n dX11_goFlip_21 rfl ?_
        refine wp_getI dX11_goFlip_22 flX11_401 rfl rfl ?_
        rw [f1.2.2.2.2 c14]
        refine wp_icmpgt 29 dX11_goFlip_25 (by decide) (by unfold InR; omega) (by unfold InR; omega) (fun c25 => ?_) (fun c25 => ?_)
        · refine wp_aload_n dX11_goFlip_29 rfl ?_
          refine wp_iload_n dX11_goFlip_30 rfl ?_
          refine wp_putI dX11_goFlip_31 plX11_398 rfl rfl ?_
          refine wp_aload_n dX11_goFlip_34 rfl ?_
          refine wp_aload_n dX11_goFlip_35 rfl ?_
          refine wp_getI dX11_goFlip_36 flX11_317 rfl rfl ?_
          rw [hI_sI, if_neg (by omega), s35]
          refine wp_putI dX11_goFlip_39 plX11_401 rfl rfl ?_
          exact wp_ret dX11_goFlip_42 rfl (by
  have e2 : st2 = (dg, ctS G s) := by rw [hst]; exact if_neg (by omega)
  rw [e2]
  obtain ⟨⟨f1, f2, f3⟩, f4, f5, f6, f7⟩ := f1
  refine ⟨rfl, ⟨⟨?_, ?_, ?_⟩, fun l hl => ?_, fun l hl => ?_, ?_, fun q => hI_same⟩, fun l hl => ?_, ((kp1.mono (T := SFl) (fun c j q => Or.inl q)).tr (Kp.sI (Or.inr (Or.inr ⟨rfl, Or.inl rfl⟩)))).tr (Kp.sI (Or.inr (Or.inr ⟨rfl, Or.inr rfl⟩)))⟩
  · rw [hI_sI, if_neg (by omega), hI_sI, if_neg (by omega)]; exact f1
  · rw [hI_sI, if_neg (by omega), hI_sI, if_neg (by omega)]; exact f2
  · rw [hM_eq (h := h1) (by rw [hI_sI, if_neg (by omega), hI_sI, if_neg (by omega)]) (fun i => by rw [hI_sI, if_neg (by omega), hI_sI, if_neg (by omega)])]; exact f3
  · rw [hI_sI, if_neg (by omega), hI_sI, if_neg (by omega)]; exact f4 l hl
  · rw [hI_sI, if_neg (by omega), hI_sI, if_neg (by omega)]; exact f5 l hl
  · rw [hI_sI, if_neg (by omega), hI_same]
  · rw [hI_sI, if_neg (by omega), hI_sI, if_neg (by omega)]; exact kp1.1 54 l (by unfold SST; omega))
        · exact wp_ret dX11_goFlip_28 rfl (by
  have e2 : st2 = st := by rw [hst]; exact if_pos ⟨c14, by omega⟩
  rw [e2]
  exact ⟨rfl, f1, fun l hl => kp1.1 54 l (by unfold SST; omega), kp1.mono (T := SFl) (fun c j q => Or.inl q)⟩)
  | succ r ih =>
    intro leg u dg s st h gk hP hu hl0 hlr hdg h1 h2 f hs
    obtain ⟨st2, hst⟩ : ∃ st2, st2 = gfF (lfG G) (r + 1) leg u dg s st := ⟨_, rfl⟩
    rw [← hst]
    have gb := gk.b
    have hd9 : dg ≤ 10000 := by
      have p1 : (1 : Int) ≤ 10 ^ (r + 1) := by exact_mod_cast Nat.one_le_pow _ 10 (by decide)
      have h3 : (dg + 1) * 1 ≤ (dg + 1) * 10 ^ (r + 1) := Int.mul_le_mul_of_nonneg_left p1 (by omega)
      omega
    refine spec_wp (Nat.le_of_ble_eq_true rfl) (by decide +kernel) ?_
    refine wp_loc [(0, .ref (adr X 47)), (1, .int (iI leg)), (2, .int (iI ((u : Nat) : Int))), (3, .int (iI dg))] ⟨rfl, rfl, rfl, rfl, trivial⟩ ?_
    refine wp_iload_n dX11_goFlip_0 rfl ?_
    refine wp_iconst dX11_goFlip_1 ?_
    refine wp_icmpne 43 dX11_goFlip_2 (by decide) (by unfold InR; omega) (by unfold InR; omega) (fun c2 => ?_) (fun c2 => ?_)
    · refine wp_iconst dX11_goFlip_43 ?_
      refine wp_istore dX11_goFlip_44 (by decide) ?_
      have Lfl : ∀ (n : Nat) (k : Nat) (sc : Int × Int) (h1 : Hp), (k + n = 4) → ((-1 ≤ sc.1 ∧ sc.1 ≤ 100000) ∧ -1000 ≤ sc.2 ∧ sc.2 ≤ 1000) → (FLP h1 G sc) → (∀ l : Nat, (l : Int) < leg → hI h1 54 l = hI h 54 l) → (Kp SFl h h1) → (st2 = (kl n k).foldl (fun st k => if u.testBit k = true then st else gfF (lfG G) r (leg + 1) (u ||| 2 ^ k) (10 * dg + k) (upv s leg k) st) sc) → WP X mX11_goFlip ((r + 1 + 30)) 46 [(0, .ref (adr X 47)), (1, .int (iI leg)), (2, .int (iI ((u : Nat) : Int))), (3, .int (iI dg)), (4, .int (iI (k : Int)))] [] h1 (FQ h G leg st2) := by
        intro n
        induction n with
        | zero =>
          intro k sc h1 hk hsc f1 hn1 kp hV
          refine wp_iload dX11_goFlip_46 rfl ?_
          refine wp_iconst dX11_goFlip_48 ?_
          refine wp_icmpge 103 dX11_goFlip_49 (by decide) (by unfold InR; omega) (by unfold InR; omega) (fun c49 => ?_) (fun c49 => ?_)
          · exact wp_ret dX11_goFlip_103 rfl (by
        have hV : st2 = sc := hV
        rw [hV]
        exact ⟨rfl, f1, hn1, kp⟩)
          · exact absurd c49 (by omega)
        | succ n ihl =>
          intro k sc h1 hk hsc f1 hn1 kp hV
          refine wp_iload dX11_goFlip_46 rfl ?_
          refine wp_iconst dX11_goFlip_48 ?_
          refine wp_icmpge 103 dX11_goFlip_49 (by decide) (by unfold InR; omega) (by unfold InR; omega) (fun c49 => ?_) (fun c49 => ?_)
          · exact absurd c49 (by omega)
          · rw [kl, List.foldl_cons] at hV
            have bh := bit_has ⟨u, hu⟩ ⟨k, by omega⟩
            have bo := bit_or ⟨u, hu⟩ ⟨k, by omega⟩
            dsimp only at bh bo
            refine wp_iload_n dX11_goFlip_52 rfl ?_
            refine wp_iload dX11_goFlip_53 rfl ?_
            refine wp_callSp dX11_goFlip_55 mlX11_237 msX11_has (S_X11_has) rfl rfl (by omega) (by decide) (Nat.le_of_ble_eq_true rfl) ?_
            refine wp_ifeqb 64 dX11_goFlip_58 (by decide) (fun c58 => ?_) (fun c58 => ?_)
            · rw [bh] at c58
              rw [if_neg c58] at hV
              have kS := f1.2.1 k (by omega)
              have sb9 := gk.s (k : Int)
              have sb := gfF_b G (by omega) r (leg + 1) (u ||| 2 ^ k) (10 * dg + k) (upv s leg k) sc (by omega) (dg10 hdg (by omega)) hsc.1 hsc.2
              refine wp_aload_n dX11_goFlip_64 rfl ?_
              refine wp_getC dX11_goFlip_65 flX11_43 rfl rfl ?_
              refine wp_iload_n dX11_goFlip_68 rfl ?_
              refine wp_aload_n dX11_goFlip_69 rfl ?_
              refine wp_getC dX11_goFlip_70 flX11_83 rfl rfl ?_
              refine wp_iload dX11_goFlip_73 rfl ?_
              refine wp_iald (n := 4) dX11_goFlip_75 rfl (by omega) (by omega) ?_
              rw [show ((k : Int)).toNat = k by omega, kS]
              refine wp_iast (n := 4) dX11_goFlip_76 rfl (by omega) (by omega) ?_
              refine wp_aload_n dX11_goFlip_77 rfl ?_
              refine wp_iload_n dX11_goFlip_78 rfl ?_
              refine wp_iconst dX11_goFlip_79 ?_
              refine wp_iadd dX11_goFlip_80 ?_
              refine wp_iload_n dX11_goFlip_81 rfl ?_
              refine wp_iconst dX11_goFlip_82 ?_
              refine wp_iload dX11_goFlip_83 rfl ?_
              refine wp_ishl dX11_goFlip_85 ?_
              refine wp_ior dX11_goFlip_86 ?_
              rw [bo.1]
              refine wp_bipush dX11_goFlip_87 rfl ?_
              refine wp_iload_n dX11_goFlip_89 rfl ?_
              refine wp_imul dX11_goFlip_90 ?_
              refine wp_iload dX11_goFlip_91 rfl ?_
              refine wp_iadd dX11_goFlip_93 ?_
              refine wp_callV dX11_goFlip_94 mlX11_404 mvX11_goFlip (ih (leg + 1) (u ||| 2 ^ k) (10 * dg + k) (upv s leg k) sc (sI h1 54 leg.toNat (gS G (k : Int))) gk hP bo.2 (by omega) (by omega) (dg10 hdg (by omega)) hsc.1 hsc.2 (FLP.leg f1 (by omega)) (fun l hl => by
        unfold upv
        rw [hI_sI]
        by_cases e : (l : Int) = leg
        · rw [if_pos ⟨rfl, by omega⟩, if_pos e]
        · rw [if_neg (by omega), if_neg e, hn1 l (by omega)]; exact hs l (by omega))) rfl rfl (by omega) (by decide) rfl rfl rfl (Nat.le_of_ble_eq_true rfl) ?_
              rintro rv h3 ⟨rfl, f3, hn3, kp3⟩
              refine wp_iinc dX11_goFlip_97 rfl (by decide) ?_
              refine wp_goto 46 dX11_goFlip_100 (by decide) ?_
              refine wp_loc [(0, .ref (adr X 47)), (1, .int (iI leg)), (2, .int (iI ((u : Nat) : Int))), (3, .int (iI dg)), (4, .int (iI ((k + 1 : Nat) : Int)))] ⟨rfl, rfl, rfl, rfl, rfl, trivial⟩ ?_
              exact ihl (k + 1) _ h3 (by omega) sb f3 (fun l hl => by rw [hn3 l (by omega), hI_sI, if_neg (by omega)]; exact hn1 l hl) ((kp.tr (Kp.sI (Or.inr (Or.inl ⟨rfl, by omega⟩)))).tr kp3) hV
            · rw [bh] at c58
              rw [if_pos c58] at hV
              refine wp_goto 97 dX11_goFlip_61 (by decide) ?_
              refine wp_iinc dX11_goFlip_97 rfl (by decide) ?_
              refine wp_goto 46 dX11_goFlip_100 (by decide) ?_
              refine wp_loc [(0, .ref (adr X 47)), (1, .int (iI leg)), (2, .int (iI ((u : Nat) : Int))), (3, .int (iI dg)), (4, .int (iI ((k + 1 : Nat) : Int)))] ⟨rfl, rfl, rfl, rfl, rfl, trivial⟩ ?_
              exact ihl (k + 1) sc h1 (by omega) hsc f1 hn1 kp hV
      refine wp_loc [(0, .ref (adr X 47)), (1, .int (iI leg)), (2, .int (iI ((u : Nat) : Int))), (3, .int (iI dg)), (4, .int (iI ((0 : Nat) : Int)))] ⟨rfl, rfl, rfl, rfl, rfl, trivial⟩ ?_
      exact Lfl 4 0 st h (by omega) ⟨h1, h2⟩ f (fun _ _ => rfl) (Kp.rf h) (by rw [hst, gfF_s])
    · exact absurd c2 (by omega)

theorem gf_ne (G : Gdn) (m : Int) : (gfF (lfG G) 4 0 0 0 (fun _ => 0) (-1, m)).1 ≠ -1 := by
  rw [gf_pl]
  have hf : ∀ (l : List (Int × Int × Int × Int)) (st : Int × Int), (∀ q ∈ l, q ∈ PLq) → st.1 ≠ -1 → (l.foldl (fun st q => lfG G (sq q) (dgq q) st) st).1 ≠ -1 := by
    intro l
    induction l with
    | nil => intro st _ h; exact h
    | cons q l ih =>
      intro st hl h
      rw [List.foldl_cons]
      refine ih _ (fun y hy => hl y (List.mem_cons_of_mem _ hy)) ?_
      have := (pl_ok q (hl q List.mem_cons_self)).2.2.1
      unfold lfG
      split
      · exact h
      · show dgq q ≠ -1; omega
  obtain ⟨q, l, hl⟩ : ∃ q l, PLq = q :: l := ⟨_, _, rfl⟩
  have hq : q ∈ PLq := by rw [hl]; exact List.mem_cons_self
  have h3 := (pl_ok q hq).2.2.1
  rw [hl, List.foldl_cons]
  have e1 : lfG G (sq q) (dgq q) (-1, m) = (dgq q, ctS G (sq q)) := if_neg (fun z => z.1 rfl)
  rw [e1]
  exact hf l _ (fun x hx => by rw [hl]; exact List.mem_cons_of_mem _ hx) (by show dgq q ≠ -1; omega)

set_option maxRecDepth 20000 in
theorem S_X11_flip {X : Cx} {h : Hp} {σ : Sg} (am : AM h σ) (o : SOK σ) {w : Int} (hw : InR w) : Spec X mX11_flip 60 [.ref (adr X 47), .int (iI w)] h (fun rv h' => rv = some (.int (iI (qFlip σ w))) ∧ AM h' σ ∧ sameC h h') := by
  refine spec_wp (Nat.le_of_ble_eq_true rfl) (by decide +kernel) ?_
  refine wp_loc [(0, .ref (adr X 47)), (1, .int (iI w))] ⟨rfl, rfl, trivial⟩ ?_
  refine wp_aload_n dX11_flip_0 rfl ?_
  refine wp_iconst dX11_flip_1 ?_
  refine wp_putI dX11_flip_2 plX11_95 rfl rfl ?_
  have k0 : KM h (sI h 47 0 0) := KM.sI (by unfold SMx; omega)
  have am := am.km k0
  generalize sI h 47 0 0 = h0 at *
  have gk := o.2.2.2.1
  have gb := gk.b
  have gkb := gk.2.1
  have e4 : hI h0 47 24 = gP (sG σ) := am.2.2.2.2.1.1
  have e5 : hI h0 47 26 = gA (sG σ) := am.2.2.2.2.1.2.1
  have e6 : hI h0 47 27 = gK (sG σ) := am.2.2.2.2.1.2.2.1
  have em : GM h0 = gE (sG σ) := am.gm
  have ep : gP (GM h0) = gP (sG σ) := e4
  obtain ⟨V, hV0⟩ : ∃ V : Int, V = qFlip σ w := ⟨_, rfl⟩
  rw [← hV0]
  unfold qFlip at hV0
  refine wp_aload_n dX11_flip_5 rfl ?_
  refine wp_getI dX11_flip_6 flX11_272 rfl rfl ?_
  refine wp_ifeq 22 dX11_flip_9 (by decide) (by first | assumption | (unfold InR; omega)) (fun c9 => ?_) (fun c9 => ?_)
  · refine wp_iconst dX11_flip_22 ?_
    exact wp_iret dX11_flip_23 rfl (⟨vi (by rw [hV0, if_pos (by omega)]), am, k0.C⟩)
  · refine wp_iload_n dX11_flip_12 rfl ?_
    refine wp_i2lI dX11_flip_13 (by first | assumption | (unfold InR; omega)) ?_
    refine wp_lconst (v := 0) dX11_flip_14 rfl ?_
    refine wp_lconst (v := 1) dX11_flip_15 rfl ?_
    refine wp_callSp dX11_flip_16 mlX11_219 msX11_isIn (S_X11_isIn (a := w) (b := 0) (c := 1) (by first | (exact InR.L (by assumption)) | (unfold InL; omega)) (by unfold InL; omega) (by unfold InL; omega)) rfl rfl (by decide) (by decide) (Nat.le_of_ble_eq_true rfl) ?_
    refine wp_ifneb 24 dX11_flip_19 (by decide) (fun c19 => ?_) (fun c19 => ?_)
    · refine wp_iconst dX11_flip_24 ?_
      refine wp_istore_n dX11_flip_25 (by decide) ?_
      rw [if_neg (by omega)] at hV0
      have K49 : WP X mX11_flip 60 49 [(0, .ref (adr X 47)), (1, .int (iI w)), (2, .int (iI ((4 : Nat) : Int)))] [] (cpy h0 54 0 66 0 4) (fun rv h' => rv = some (.int (iI V)) ∧ AM h' σ ∧ sameC h h') := by
        refine wp_aload_n dX11_flip_49 rfl ?_
        refine wp_iconst dX11_flip_50 ?_
        refine wp_putI dX11_flip_51 plX11_398 rfl rfl ?_
        have sbs := fun l : Nat => gk.s (l : Int)
        have f0 : FLP (sI (cpy h0 54 0 66 0 4) 47 45 (-1)) (sG σ) (-1, 0) := by
          refine ⟨⟨by rw [hI_sI, if_neg (by omega), cpy_I (by decide)]; exact e4, by rw [hI_sI, if_neg (by omega), cpy_I (by decide)]; exact e5, by rw [hM_eq (h := h0) (by rw [hI_sI, if_neg (by omega), cpy_I (by decide)]) (fun i => by rw [hI_sI, if_neg (by omega), cpy_I (by decide)])]; exact am.2.2.2.2.1.2.2.2.1⟩, fun l hl => ?_, fun l hl => ?_, hI_same, fun q => absurd rfl q⟩
          · rw [hI_sI, if_neg (by omega), cpy_in (by omega) (by omega), show 0 + (l - 0) = l by omega]
            have := am.sv (l := (l : Int)) (by omega)
            rw [show ((l : Int)).toNat = l by omega] at this
            exact this
          · rw [hI_sI, if_neg (by omega), cpy_I (by decide)]
            have := am.sv (l := (l : Int)) (by omega)
            rw [show ((l : Int)).toNat = l by omega] at this
            rw [this]
            exact sbs l
        refine wp_aload_n dX11_flip_54 rfl ?_
        refine wp_iconst dX11_flip_55 ?_
        refine wp_iconst dX11_flip_56 ?_
        refine wp_iconst dX11_flip_57 ?_
        refine wp_callV dX11_flip_58 mlX11_404 mvX11_goFlip (S_X11_goFlip (G := sG σ) 4 0 0 0 (fun _ => 0) (-1, 0) _ gk (by omega) (by decide) (by omega) (by omega) (by decide) (by decide) (by decide) f0 (fun l hl => by omega)) rfl rfl (by decide) (by decide) rfl rfl rfl (Nat.le_of_ble_eq_true rfl) ?_
        rintro rv h3 ⟨rfl, f3, -, kp3⟩
        obtain ⟨st3, hst3⟩ : ∃ st3, st3 = gfF (lfG (sG σ)) 4 0 0 0 (fun _ => 0) (-1, 0) := ⟨_, rfl⟩
        rw [← hst3] at f3
        have hd3 : st3.1 ≠ -1 := by rw [hst3]; exact gf_ne (sG σ) _
        have hout : ∀ j : Nat, 4 ≤ j → hI h3 54 j = hI h0 54 j := fun j hj => by rw [kp3.1 54 j (by unfold SFl SST; omega), hI_sI, if_neg (by omega), cpy_I (by decide)]
        refine wp_iconst dX11_flip_61 ?_
        refine wp_istore_n dX11_flip_62 (by decide) ?_
        have K86 : WP X mX11_flip 60 86 [(0, .ref (adr X 47)), (1, .int (iI w)), (2, .int (iI ((4 : Nat) : Int)))] [] (cpy h3 66 0 54 0 4) (fun rv h' => rv = some (.int (iI V)) ∧ AM h' σ ∧ sameC h h') := by
          refine wp_iload_n dX11_flip_86 rfl ?_
          refine wp_ifne 97 dX11_flip_87 (by decide) (by first | assumption | (unfold InR; omega)) (fun c87 => ?_) (fun c87 => ?_)
          · refine wp_aload_n dX11_flip_97 rfl ?_
            refine wp_getI dX11_flip_98 flX11_401 rfl rfl ?_
            rw [cpy_I (by decide), f3.2.2.2.2 hd3]
            exact wp_iret dX11_flip_101 rfl (by
          have k9 : KM h0 (cpy h3 66 0 54 0 4) := by
            refine ⟨fun c j q => ?_, fun c hc => by show h3.2.1 c = _; rw [kp3.2]; rfl, fun c j hc => by show h3.2.2 c j = _; rw [kp3.2]; rfl, Or.inl (by show h3.2.2 47 5 = _; rw [kp3.2]; rfl)⟩
            by_cases e : c = 54
            · subst e
              by_cases e2 : j < 4
              · rw [cpy_in (by omega) (by omega), kp3.1 66 _ (by unfold SFl SST; omega), hI_sI, if_neg (by omega), cpy_in (by omega) (by omega)]; congr 1; omega
              · rw [cpy_out (by omega)]; exact hout j (by omega)
            · rw [cpy_I e, kp3.1 c j (by unfold SFl SST; unfold SMx at q; omega), hI_sI, if_neg (by unfold SMx at q; omega), cpy_I (by unfold SMx at q; omega)]
          exact ⟨vi (by rw [hV0, ← flip_eq (sG σ) 0]; unfold sel2; rw [if_neg c87, ← hst3]), am.km k9, (k0.tr k9).C⟩)
          · refine wp_aload_n dX11_flip_90 rfl ?_
            refine wp_getI dX11_flip_91 flX11_398 rfl rfl ?_
            rw [cpy_I (by decide), f3.2.2.2.1]
            refine wp_goto 101 dX11_flip_94 (by decide) ?_
            exact wp_iret dX11_flip_101 rfl (by
          have k9 : KM h0 (cpy h3 66 0 54 0 4) := by
            refine ⟨fun c j q => ?_, fun c hc => by show h3.2.1 c = _; rw [kp3.2]; rfl, fun c j hc => by show h3.2.2 c j = _; rw [kp3.2]; rfl, Or.inl (by show h3.2.2 47 5 = _; rw [kp3.2]; rfl)⟩
            by_cases e : c = 54
            · subst e
              by_cases e2 : j < 4
              · rw [cpy_in (by omega) (by omega), kp3.1 66 _ (by unfold SFl SST; omega), hI_sI, if_neg (by omega), cpy_in (by omega) (by omega)]; congr 1; omega
              · rw [cpy_out (by omega)]; exact hout j (by omega)
            · rw [cpy_I e, kp3.1 c j (by unfold SFl SST; unfold SMx at q; omega), hI_sI, if_neg (by unfold SMx at q; omega), cpy_I (by unfold SMx at q; omega)]
          exact ⟨vi (by rw [hV0, ← flip_eq (sG σ) 0]; unfold sel2; rw [if_pos c87, ← hst3]), am.km k9, (k0.tr k9).C⟩)
        have Lfb : ∀ (n : Nat) (k : Nat), (k + n = 4) → WP X mX11_flip 60 63 [(0, .ref (adr X 47)), (1, .int (iI w)), (2, .int (iI (k : Int)))] [] (cpy h3 66 0 54 0 k) (fun rv h' => rv = some (.int (iI V)) ∧ AM h' σ ∧ sameC h h') := by
          intro n
          induction n with
          | zero =>
            intro k hk
            refine wp_iload_n dX11_flip_63 rfl ?_
            refine wp_iconst dX11_flip_64 ?_
            refine wp_icmpge 86 dX11_flip_65 (by decide) (by unfold InR; omega) (by unfold InR; omega) (fun c65 => ?_) (fun c65 => ?_)
            · rw [show k = 4 by omega]
              exact K86
            · exact absurd c65 (by omega)
          | succ n ih =>
            intro k hk
            refine wp_iload_n dX11_flip_63 rfl ?_
            refine wp_iconst dX11_flip_64 ?_
            refine wp_icmpge 86 dX11_flip_65 (by decide) (by unfold InR; omega) (by unfold InR; omega) (fun c65 => ?_) (fun c65 => ?_)
            · exact absurd c65 (by omega)
            · refine wp_aload_n dX11_flip_68 rfl ?_
              refine wp_getC dX11_flip_69 flX11_43 rfl rfl ?_
              refine wp_iload_n dX11_flip_72 rfl ?_
              refine wp_aload_n dX11_flip_73 rfl ?_
              refine wp_getC dX11_flip_74 flX11_83 rfl rfl ?_
              refine wp_iload_n dX11_flip_77 rfl ?_
              refine wp_iald dX11_flip_78 rfl (by omega) (by omega) ?_
              rw [show (((k : Nat) : Int)).toNat = 0 + k by omega, cpy_I (by decide)]
              refine wp_iast dX11_flip_79 rfl (by omega) (by omega) ?_
              rw [show (((k : Nat) : Int)).toNat = 0 + k by omega, cpy_s]
              refine wp_iinc dX11_flip_80 rfl (by decide) ?_
              refine wp_goto 63 dX11_flip_83 (by decide) ?_
              refine wp_loc [(0, .ref (adr X 47)), (1, .int (iI w)), (2, .int (iI ((k + 1 : Nat) : Int)))] ⟨rfl, rfl, rfl, trivial⟩ ?_
              exact ih (k + 1) (by omega)
        refine wp_loc [(0, .ref (adr X 47)), (1, .int (iI w)), (2, .int (iI ((0 : Nat) : Int)))] ⟨rfl, rfl, rfl, trivial⟩ ?_
        have q := Lfb 4 0 (by omega)
        rw [cpy_0] at q
        exact q
      have Lfa : ∀ (n : Nat) (k : Nat), (k + n = 4) → WP X mX11_flip 60 26 [(0, .ref (adr X 47)), (1, .int (iI w)), (2, .int (iI (k : Int)))] [] (cpy h0 54 0 66 0 k) (fun rv h' => rv = some (.int (iI V)) ∧ AM h' σ ∧ sameC h h') := by
        intro n
        induction n with
        | zero =>
          intro k hk
          refine wp_iload_n dX11_flip_26 rfl ?_
          refine wp_iconst dX11_flip_27 ?_
          refine wp_icmpge 49 dX11_flip_28 (by decide) (by unfold InR; omega) (by unfold InR; omega) (fun c28 => ?_) (fun c28 => ?_)
          · rw [show k = 4 by omega]
            exact K49
          · exact absurd c28 (by omega)
        | succ n ih =>
          intro k hk
          refine wp_iload_n dX11_flip_26 rfl ?_
          refine wp_iconst dX11_flip_27 ?_
          refine wp_icmpge 49 dX11_flip_28 (by decide) (by unfold InR; omega) (by unfold InR; omega) (fun c28 => ?_) (fun c28 => ?_)
          · exact absurd c28 (by omega)
          · refine wp_aload_n dX11_flip_31 rfl ?_
            refine wp_getC dX11_flip_32 flX11_83 rfl rfl ?_
            refine wp_iload_n dX11_flip_35 rfl ?_
            refine wp_aload_n dX11_flip_36 rfl ?_
            refine wp_getC dX11_flip_37 flX11_43 rfl rfl ?_
            refine wp_iload_n dX11_flip_40 rfl ?_
            refine wp_iald dX11_flip_41 rfl (by omega) (by omega) ?_
            rw [show (((k : Nat) : Int)).toNat = 0 + k by omega, cpy_I (by decide)]
            refine wp_iast dX11_flip_42 rfl (by omega) (by omega) ?_
            rw [show (((k : Nat) : Int)).toNat = 0 + k by omega, cpy_s]
            refine wp_iinc dX11_flip_43 rfl (by decide) ?_
            refine wp_goto 26 dX11_flip_46 (by decide) ?_
            refine wp_loc [(0, .ref (adr X 47)), (1, .int (iI w)), (2, .int (iI ((k + 1 : Nat) : Int)))] ⟨rfl, rfl, rfl, trivial⟩ ?_
            exact ih (k + 1) (by omega)
      refine wp_loc [(0, .ref (adr X 47)), (1, .int (iI w)), (2, .int (iI ((0 : Nat) : Int)))] ⟨rfl, rfl, rfl, trivial⟩ ?_
      have q := Lfa 4 0 (by omega)
      rw [cpy_0] at q
      exact q
    · refine wp_iconst dX11_flip_22 ?_
      exact wp_iret dX11_flip_23 rfl (⟨vi (by rw [hV0, if_pos (by omega)]), am, k0.C⟩)

