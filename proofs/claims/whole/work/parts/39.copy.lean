/-! System.arraycopy between int arrays -/
theorem acN : Cond.native arraycopyName ∈ wsG := inL 522 (by decide +kernel) rfl
theorem acS : Cond.static arraycopyName ∈ wsG := inL 521 (by decide +kernel) rfl
theorem acI : Cond.initialized "java/lang/System" ∈ wsG := inL 95 (by decide +kernel) rfl
theorem acX4 : Cond.methodLink RX4 91 arraycopyName ∈ wsG := inL 520 (by decide +kernel) rfl
theorem acX8 : Cond.methodLink RX8 34 arraycopyName ∈ wsG := inL 594 (by decide +kernel) rfl
theorem acX3 : Cond.methodLink RX3 93 arraycopyName ∈ wsG := inL 994 (by decide +kernel) rfl
def cpy (h : Hp) (a s b t n : Nat) : Hp := sA h b (fun i => if t ≤ i ∧ i < t + n then hI h a (s + (i - t)) else hI h b i)
theorem so_sA {h : Hp} {a : Nat} {f : Nat → Int} : ∀ b, b ≠ a → (sA h a f).1 b = h.1 b ∧ (sA h a f).2.1 b = h.2.1 b ∧ (sA h a f).2.2 b = h.2.2 b := fun b hb => ⟨if_neg hb, rfl, rfl⟩
theorem wp_acopy {X : Cx} {M : Mt} {d pc : Nat} {lv : List (Nat × Value)} {st : List Value} {h : Hp} {Post : Option Value → Hp → Prop} {idx a b n0 n1 : Nat} {sp dp n : Int} (hd : decode M.2.1 pc = .ok (.invokestatic idx, 3)) (hw : Cond.methodLink M.1.cls idx arraycopyName ∈ wsG) (ha : shp[a]? = some (.inl (0, n0))) (hb : shp[b]? = some (.inl (0, n1))) (h1 : 0 ≤ sp) (h2 : 0 ≤ dp) (h3 : 0 ≤ n) (h4 : sp + n ≤ n0) (h5 : dp + n ≤ n1) (hdp : 1 ≤ d) (hrm : (st.map fun v => v.category).sum ≤ 8) (k : WP X M d (pc + 3) lv st (cpy h a sp.toNat b dp.toNat n.toNat) Post) : WP X M d pc lv (.int (iI n) :: .int (iI dp) :: .ref (adr X b) :: .int (iI sp) :: .ref (adr X a) :: st) h Post := by
  intro p e s m args below meth c H locs ls hC hP hS hl
  have l0 := shp_len ha
  have l1 := shp_len hb
  have hts := hC.2.2.2.2.2.1
  have nn : ∀ z : Int, 0 ≤ z → z ≤ 2000 → ¬ iI z < 0 ∧ (iI z).toNatClampNeg = z.toNat := by
    intro z z0 z1
    obtain ⟨c1, c2⟩ := iI_clamp (n := 2001) z0 (by omega) (by omega)
    exact ⟨fun q => c1 (Or.inl q), c2⟩
  obtain ⟨a1, a2⟩ := nn sp h1 (by omega)
  obtain ⟨b1, b2⟩ := nn dp h2 (by omega)
  obtain ⟨c1, c2⟩ := nn n h3 (by omega)
  have hlo : (st.map fun v => v.category).sum + (nativeFrameWords "java/lang/System" "arraycopy" 5 + 11) ≤ (rmD d).locals := by
    have q : nativeFrameWords "java/lang/System" "arraycopy" 5 + 11 ≤ 50 := by decide
    show _ ≤ 64 * d
    omega
  refine va_copyi hC.1 hC.2.1 (hC.2.2.2.1.trans hl.1.symm) hC.2.2.2.2.1 (hts _ (wsM_G hw)) (hts _ (wsM_G acN)) (hts _ (wsM_G acS)) (hts _ (wsM_G acI)) hC.2.2.2.2.2.2.2.1 hP (wld_D hC.2.2.2.2.2.2.2.2.2 s.heap.size h) hS a b 0 0 (wld_at ha) (wld_at hb) rfl rfl rfl a1 b1 c1 (by rw [a2, c2]; omega) (by rw [b2, c2]; omega) (fun _ _ => rfl) hdp hlo hd (fun H1 locs1 hP1 _ hS1 => ?_)
  rw [a2, b2, c2] at hP1
  have ee : va_cpy (fun i => iI (hI h a i)) (fun i => iI (hI h b i)) sp.toNat dp.toNat n.toNat = fun i => iI (hI (cpy h a sp.toNat b dp.toNat n.toNat) b i) := by
    funext i
    unfold va_cpy cpy
    rw [hI_sA, if_pos rfl]
    split <;> rfl
  rw [ee] at hP1
  rw [show (wld X h).set b (adr X b, .inl (X.2.2.1 0, n1, .inl (fun i => iI (hI (cpy h a sp.toNat b dp.toNat n.toNat) b i)))) = wld X (cpy h a sp.toNat b dp.toNat n.toNat) from wld_set hb rfl so_sA] at hP1
  exact k p e s m args below meth c H1 locs1 _ hC hP1 hS1 hl

