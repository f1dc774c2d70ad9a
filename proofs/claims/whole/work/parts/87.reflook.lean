/-! the reference: a text is looked at -/
def TXm (h : Hp) (t : List Int) (b B : Nat) : Prop := hR h 47 5 = b ∧ ((b = 48 ∧ B = 0) ∨ (b = 49 ∧ B ≤ 480)) ∧ hI h 47 8 = B ∧ hI h 47 9 = t.length ∧ ∀ j : Nat, j < t.length → hI h b (B + j) = sbt (t.getD j 0)
def SP (c j : Nat) : Prop := c = 47 ∧ (j = 10 ∨ j = 11 ∨ j = 12)
theorem TXm.kp {h h' : Hp} {t : List Int} {b B : Nat} (x : TXm h t b B) (k : Kp SP h h') : TXm h' t b B := ⟨by unfold hR; rw [k.2]; exact x.1, x.2.1, by rw [k.1 47 8 (by unfold SP; omega)]; exact x.2.2.1, by rw [k.1 47 9 (by unfold SP; omega)]; exact x.2.2.2.1, fun j hj => by rw [k.1 b _ (by have := x.2.1; unfold SP; omega)]; exact x.2.2.2.2 j hj⟩
theorem TXm.sh {h : Hp} {t : List Int} {b B : Nat} (x : TXm h t b B) (tk : TOK t) : ∃ n, shp[b]? = some (.inl (1, n)) ∧ B + t.length ≤ n := by
  have := tk.1
  rcases x.2.1 with ⟨rfl, rfl⟩ | ⟨rfl, q⟩
  · exact ⟨160, rfl, by omega⟩
  · exact ⟨640, rfl, by omega⟩
theorem TXm.at {h : Hp} {t : List Int} {b B i : Nat} (x : TXm h t b B) (hi : i < t.length) : hI h b (B + i) = sbt (bt t i) := by rw [x.2.2.2.2 i hi, bt_in hi]
theorem sbt_b {x : Int} (h : 1 ≤ x ∧ x ≤ 255) : (-128 ≤ sbt x ∧ sbt x ≤ 127) ∧ (∀ y, 0 ≤ y → y < 128 → (sbt x = y ↔ x = y)) ∧ iAnd (sbt x) 255 = x := by
  refine ⟨by unfold sbt; split <;> omega, fun y h0 h1 => by unfold sbt; split <;> omega, ?_⟩
  have h2 : ∀ n : Fin 256, iAnd (sbt ((n : Nat) : Int)) 255 = ((n : Nat) : Int) := by decide +kernel
  have := h2 ⟨x.toNat, by omega⟩
  rwa [show ((x.toNat : Nat) : Int) = x by omega] at this
theorem sk_step {t : List Int} {j : Nat} (h : j < t.length) : sk t j = if bt t j = 32 then sk t (j + 1) else j := by
  unfold sk
  rw [show t.length - j = (t.length - (j + 1)) + 1 by omega]
  rfl
theorem sk_len (t : List Int) : sk t t.length = t.length := by unfold sk; rw [Nat.sub_self]; rfl
def LTm (h : Hp) (ρ : Int → Int) : Prop := ∀ x : Int, (x = 103 ∨ x = 112 ∨ x = 116 ∨ x = 115 ∨ x = 110) → iI (hI h 51 x.toNat) = iI (ρ x) ∧ InR (ρ x)
theorem LTm.kp {h h' : Hp} {ρ : Int → Int} (l : LTm h ρ) (k : Kp SP h h') : LTm h' ρ := fun x h0 => by rw [k.1 51 _ (by unfold SP; omega)]; exact l x h0
def PLm (h : Hp) (t : List Int) (b B i : Nat) (d : Int) (ρ : Int → Int) : Prop := TXm h t b B ∧ TOK t ∧ hI h 47 10 = i ∧ i ≤ t.length ∧ hI h 47 11 = -1 ∧ hI h 47 12 = d ∧ LTm h ρ
theorem kp10 {h : Hp} {v : Int} : Kp SP h (sI h 47 10 v) := Kp.sI ⟨rfl, Or.inl rfl⟩
theorem kp11 {h : Hp} {v : Int} : Kp SP h (sI h 47 11 v) := Kp.sI ⟨rfl, Or.inr (Or.inl rfl)⟩
theorem kp12 {h : Hp} {v : Int} : Kp SP h (sI h 47 12 v) := Kp.sI ⟨rfl, Or.inr (Or.inr rfl)⟩
theorem PLm.at {h : Hp} {t : List Int} {b B i j : Nat} {d : Int} {ρ : Int → Int} (p : PLm h t b B i d ρ) (hj : j ≤ t.length) : PLm (sI h 47 10 (j : Int)) t b B j d ρ := ⟨p.1.kp kp10, p.2.1, hI_same, hj, by rw [hI_sI, if_neg (by omega)]; exact p.2.2.2.2.1, by rw [hI_sI, if_neg (by omega)]; exact p.2.2.2.2.2.1, p.2.2.2.2.2.2.kp kp10⟩
theorem hI_10 {h : Hp} {v : Int} {j : Nat} (hj : j ≠ 10) : hI (sI h 47 10 v) 47 j = hI h 47 j := by rw [hI_sI, if_neg (fun q => hj q.2)]

set_option maxRecDepth 20000 in
theorem S_X11_look {X : Cx} {h : Hp} {t : List Int} {b B i : Nat} (tx : TXm h t b B) (tk : TOK t) (hi : hI h 47 10 = i) (hl : i ≤ t.length) : Spec X mX11_look 0 [.ref (adr X 47)] h (fun rv h' => rv = some (.int (iI (lk t i))) ∧ h' = sI h 47 10 ((sk t i : Nat) : Int)) := by
  obtain ⟨n9, hn9, hle9⟩ := tx.sh tk
  have t160 := tk.1
  have B480 : B ≤ 480 := by have := tx.2.1; omega
  refine spec_wp (Nat.le_of_ble_eq_true rfl) (by decide +kernel) ?_
  refine wp_loc [(0, .ref (adr X 47))] ⟨rfl, trivial⟩ ?_
  have Llk : ∀ (n : Nat) (j : Nat), (j + n = t.length) → (sk t i = sk t j) → WP X mX11_look 0 0 [(0, .ref (adr X 47))] [] (sI h 47 10 ((j : Nat) : Int)) (fun rv h' => rv = some (.int (iI (lk t i))) ∧ h' = sI h 47 10 ((sk t i : Nat) : Int)) := by
    intro n
    induction n with
    | zero =>
      intro j hn hS
      have txj := tx.kp (kp10 (h := h) (v := ((j : Nat) : Int)))
      refine wp_aload_n dX11_look_0 rfl ?_
      refine wp_getI dX11_look_1 flX11_122 rfl rfl ?_
      rw [hI_same]
      refine wp_aload_n dX11_look_4 rfl ?_
      refine wp_getI dX11_look_5 flX11_125 rfl rfl ?_
      rw [txj.2.2.2.1]
      refine wp_icmpge 43 dX11_look_8 (by decide) (by unfold InR; omega) (by unfold InR; omega) (fun c8 => ?_) (fun c8 => ?_)
      · have hS : sk t i = j := by rw [hS, show j = t.length by omega, sk_len]
        have hlk : lk t i = bt t j := by unfold lk; rw [hS]
        refine wp_aload_n dX11_look_43 rfl ?_
        refine wp_getI dX11_look_44 flX11_122 rfl rfl ?_
        rw [hI_same]
        refine wp_aload_n dX11_look_47 rfl ?_
        refine wp_getI dX11_look_48 flX11_125 rfl rfl ?_
        rw [txj.2.2.2.1]
        refine wp_icmpge 75 dX11_look_51 (by decide) (by unfold InR; omega) (by unfold InR; omega) (fun c51 => ?_) (fun c51 => ?_)
        · refine wp_iconst dX11_look_75 ?_
          exact wp_iret dX11_look_76 rfl (⟨vi (by rw [hlk, show j = t.length by omega, bt_out (Nat.le_refl _)]), by rw [hS]⟩)
        · refine wp_aload_n dX11_look_54 rfl ?_
          refine wp_getM dX11_look_55 flX11_23 rfl rfl ?_
          rw [txj.1]
          refine wp_aload_n dX11_look_58 rfl ?_
          refine wp_getI dX11_look_59 flX11_128 rfl rfl ?_
          rw [txj.2.2.1]
          refine wp_aload_n dX11_look_62 rfl ?_
          refine wp_getI dX11_look_63 flX11_122 rfl rfl ?_
          rw [hI_same]
          refine wp_iadd dX11_look_66 ?_
          refine wp_bald dX11_look_67 hn9 (by omega) (by omega) ?_
          rw [show (((B : Nat) : Int) + ((j : Nat) : Int)).toNat = B + j by omega, txj.at (by omega)]
          have bb := bt_b tk (i := j) (by omega)
          have sb9 := sbt_b bb
          refine wp_sipush dX11_look_68 rfl ?_
          refine wp_iand dX11_look_71 ?_
          rw [sb9.2.2]
          refine wp_goto 76 dX11_look_72 (by decide) ?_
          exact wp_iret dX11_look_76 rfl (⟨vi (by rw [hlk]), by rw [hS]⟩)
      · exact absurd c8 (by omega)
    | succ n ih =>
      intro j hn hS
      have txj := tx.kp (kp10 (h := h) (v := ((j : Nat) : Int)))
      refine wp_aload_n dX11_look_0 rfl ?_
      refine wp_getI dX11_look_1 flX11_122 rfl rfl ?_
      rw [hI_same]
      refine wp_aload_n dX11_look_4 rfl ?_
      refine wp_getI dX11_look_5 flX11_125 rfl rfl ?_
      rw [txj.2.2.2.1]
      refine wp_icmpge 43 dX11_look_8 (by decide) (by unfold InR; omega) (by unfold InR; omega) (fun c8 => ?_) (fun c8 => ?_)
      · exact absurd c8 (by omega)
      · refine wp_aload_n dX11_look_11 rfl ?_
        refine wp_getM dX11_look_12 flX11_23 rfl rfl ?_
        rw [txj.1]
        refine wp_aload_n dX11_look_15 rfl ?_
        refine wp_getI dX11_look_16 flX11_128 rfl rfl ?_
        rw [txj.2.2.1]
        refine wp_aload_n dX11_look_19 rfl ?_
        refine wp_getI dX11_look_20 flX11_122 rfl rfl ?_
        rw [hI_same]
        refine wp_iadd dX11_look_23 ?_
        refine wp_bald dX11_look_24 hn9 (by omega) (by omega) ?_
        rw [show (((B : Nat) : Int) + ((j : Nat) : Int)).toNat = B + j by omega, txj.at (by omega)]
        have bb := bt_b tk (i := j) (by omega)
        have sb9 := sbt_b bb
        rw [sk_step (j := j) (by omega)] at hS
        refine wp_bipush dX11_look_25 rfl ?_
        refine wp_icmpne 43 dX11_look_27 (by decide) (by unfold InR; omega) (by unfold InR; omega) (fun c27 => ?_) (fun c27 => ?_)
        · rw [if_neg (fun q => c27 ((sb9.2.1 32 (by decide) (by decide)).mpr q))] at hS
          have hlk : lk t i = bt t j := by unfold lk; rw [hS]
          refine wp_aload_n dX11_look_43 rfl ?_
          refine wp_getI dX11_look_44 flX11_122 rfl rfl ?_
          rw [hI_same]
          refine wp_aload_n dX11_look_47 rfl ?_
          refine wp_getI dX11_look_48 flX11_125 rfl rfl ?_
          rw [txj.2.2.2.1]
          refine wp_icmpge 75 dX11_look_51 (by decide) (by unfold InR; omega) (by unfold InR; omega) (fun c51 => ?_) (fun c51 => ?_)
          · refine wp_iconst dX11_look_75 ?_
            exact wp_iret dX11_look_76 rfl (⟨vi (by rw [hlk, show j = t.length by omega, bt_out (Nat.le_refl _)]), by rw [hS]⟩)
          · refine wp_aload_n dX11_look_54 rfl ?_
            refine wp_getM dX11_look_55 flX11_23 rfl rfl ?_
            rw [txj.1]
            refine wp_aload_n dX11_look_58 rfl ?_
            refine wp_getI dX11_look_59 flX11_128 rfl rfl ?_
            rw [txj.2.2.1]
            refine wp_aload_n dX11_look_62 rfl ?_
            refine wp_getI dX11_look_63 flX11_122 rfl rfl ?_
            rw [hI_same]
            refine wp_iadd dX11_look_66 ?_
            refine wp_bald dX11_look_67 hn9 (by omega) (by omega) ?_
            rw [show (((B : Nat) : Int) + ((j : Nat) : Int)).toNat = B + j by omega, txj.at (by omega)]
            have bb := bt_b tk (i := j) (by omega)
            have sb9 := sbt_b bb
            refine wp_sipush dX11_look_68 rfl ?_
            refine wp_iand dX11_look_71 ?_
            rw [sb9.2.2]
            refine wp_goto 76 dX11_look_72 (by decide) ?_
            exact wp_iret dX11_look_76 rfl (⟨vi (by rw [hlk]), by rw [hS]⟩)
        · refine wp_aload_n dX11_look_30 rfl ?_
          refine wp_dup dX11_look_31 rfl ?_
          refine wp_getI dX11_look_32 flX11_122 rfl rfl ?_
          rw [hI_same]
          refine wp_iconst dX11_look_35 ?_
          refine wp_iadd dX11_look_36 ?_
          refine wp_putI dX11_look_37 plX11_122 rfl rfl ?_
          rw [sI_sI]
          refine wp_goto 0 dX11_look_40 (by decide) ?_
          rw [if_pos ((sb9.2.1 32 (by decide) (by decide)).mp c27)] at hS
          rw [show ((j : Nat) : Int) + 1 = ((j + 1 : Nat) : Int) by omega]
          exact ih (j + 1) (by omega) hS
  have q := Llk (t.length - i) i (by omega) rfl
  rw [sI_self hi] at q
  exact q

set_option maxRecDepth 20000 in
theorem S_X11_isDigit {X : Cx} {h : Hp} {t : List Int} {b B i : Nat} (txj : TXm h t b B) (tk : TOK t) (hi : hI h 47 10 = i) (hl : i ≤ t.length) : Spec X mX11_isDigit 0 [.ref (adr X 47)] h (fun rv h' => rv = some (.int (iI (b2i (48 ≤ bt t i ∧ bt t i ≤ 57)))) ∧ h' = h) := by
  obtain ⟨n9, hn9, hle9⟩ := txj.sh tk
  have t160 := tk.1
  have B480 : B ≤ 480 := by have := txj.2.1; omega
  refine spec_wp (Nat.le_of_ble_eq_true rfl) (by decide +kernel) ?_
  refine wp_loc [(0, .ref (adr X 47))] ⟨rfl, trivial⟩ ?_
  refine wp_aload_n dX11_isDigit_0 rfl ?_
  refine wp_getI dX11_isDigit_1 flX11_122 rfl rfl ?_
  rw [hi]
  refine wp_aload_n dX11_isDigit_4 rfl ?_
  refine wp_getI dX11_isDigit_5 flX11_125 rfl rfl ?_
  rw [txj.2.2.2.1]
  refine wp_icmpge 53 dX11_isDigit_8 (by decide) (by unfold InR; omega) (by unfold InR; omega) (fun c8 => ?_) (fun c8 => ?_)
  · refine wp_iconst dX11_isDigit_53 ?_
    exact wp_zret dX11_isDigit_54 rfl (by omega) (⟨vb0 (by rw [bt_out (by omega)]; omega), rfl⟩)
  · refine wp_aload_n dX11_isDigit_11 rfl ?_
    refine wp_getM dX11_isDigit_12 flX11_23 rfl rfl ?_
    rw [txj.1]
    refine wp_aload_n dX11_isDigit_15 rfl ?_
    refine wp_getI dX11_isDigit_16 flX11_128 rfl rfl ?_
    rw [txj.2.2.1]
    refine wp_aload_n dX11_isDigit_19 rfl ?_
    refine wp_getI dX11_isDigit_20 flX11_122 rfl rfl ?_
    rw [hi]
    refine wp_iadd dX11_isDigit_23 ?_
    refine wp_bald dX11_isDigit_24 hn9 (by omega) (by omega) ?_
    rw [show (((B : Nat) : Int) + ((i : Nat) : Int)).toNat = B + i by omega, txj.at (by omega)]
    have bb := bt_b tk (i := i) (by omega)
    have sb9 := (sbt_b bb).1
    have sb8 : sbt (bt t i) = bt t i ∨ (128 ≤ bt t i ∧ sbt (bt t i) < 0) := by unfold sbt; split <;> omega
    refine wp_bipush dX11_isDigit_25 rfl ?_
    refine wp_icmplt 53 dX11_isDigit_27 (by decide) (by unfold InR; omega) (by unfold InR; omega) (fun c27 => ?_) (fun c27 => ?_)
    · refine wp_iconst dX11_isDigit_53 ?_
      exact wp_zret dX11_isDigit_54 rfl (by omega) (⟨vb0 (by omega), rfl⟩)
    · refine wp_aload_n dX11_isDigit_30 rfl ?_
      refine wp_getM dX11_isDigit_31 flX11_23 rfl rfl ?_
      rw [txj.1]
      refine wp_aload_n dX11_isDigit_34 rfl ?_
      refine wp_getI dX11_isDigit_35 flX11_128 rfl rfl ?_
      rw [txj.2.2.1]
      refine wp_aload_n dX11_isDigit_38 rfl ?_
      refine wp_getI dX11_isDigit_39 flX11_122 rfl rfl ?_
      rw [hi]
      refine wp_iadd dX11_isDigit_42 ?_
      refine wp_bald dX11_isDigit_43 hn9 (by omega) (by omega) ?_
      rw [show (((B : Nat) : Int) + ((i : Nat) : Int)).toNat = B + i by omega, txj.at (by omega)]
      refine wp_bipush dX11_isDigit_44 rfl ?_
      refine wp_icmpgt 53 dX11_isDigit_46 (by decide) (by unfold InR; omega) (by unfold InR; omega) (fun c46 => ?_) (fun c46 => ?_)
      · refine wp_iconst dX11_isDigit_53 ?_
        exact wp_zret dX11_isDigit_54 rfl (by omega) (⟨vb0 (by omega), rfl⟩)
      · refine wp_iconst dX11_isDigit_49 ?_
        refine wp_goto 54 dX11_isDigit_50 (by decide) ?_
        exact wp_zret dX11_isDigit_54 rfl (by omega) (⟨vb1 (by omega), rfl⟩)

set_option maxRecDepth 20000 in
theorem S_X11_here {X : Cx} {h : Hp} {t : List Int} {b B i : Nat} (txj : TXm h t b B) (tk : TOK t) (hi : hI h 47 10 = i) (hl : i ≤ t.length) : Spec X mX11_here 0 [.ref (adr X 47)] h (fun rv h' => rv = some (.int (iI (bt t i))) ∧ h' = h) := by
  obtain ⟨n9, hn9, hle9⟩ := txj.sh tk
  have t160 := tk.1
  have B480 : B ≤ 480 := by have := txj.2.1; omega
  refine spec_wp (Nat.le_of_ble_eq_true rfl) (by decide +kernel) ?_
  refine wp_loc [(0, .ref (adr X 47))] ⟨rfl, trivial⟩ ?_
  refine wp_aload_n dX11_here_0 rfl ?_
  refine wp_getI dX11_here_1 flX11_122 rfl rfl ?_
  rw [hi]
  refine wp_aload_n dX11_here_4 rfl ?_
  refine wp_getI dX11_here_5 flX11_125 rfl rfl ?_
  rw [txj.2.2.2.1]
  refine wp_icmpge 32 dX11_here_8 (by decide) (by unfold InR; omega) (by unfold InR; omega) (fun c8 => ?_) (fun c8 => ?_)
  · refine wp_iconst dX11_here_32 ?_
    exact wp_iret dX11_here_33 rfl (⟨vi (by rw [bt_out (by omega)]), rfl⟩)
  · refine wp_aload_n dX11_here_11 rfl ?_
    refine wp_getM dX11_here_12 flX11_23 rfl rfl ?_
    rw [txj.1]
    refine wp_aload_n dX11_here_15 rfl ?_
    refine wp_getI dX11_here_16 flX11_128 rfl rfl ?_
    rw [txj.2.2.1]
    refine wp_aload_n dX11_here_19 rfl ?_
    refine wp_getI dX11_here_20 flX11_122 rfl rfl ?_
    rw [hi]
    refine wp_iadd dX11_here_23 ?_
    refine wp_bald dX11_here_24 hn9 (by omega) (by omega) ?_
    rw [show (((B : Nat) : Int) + ((i : Nat) : Int)).toNat = B + i by omega, txj.at (by omega)]
    have sb9 := sbt_b (bt_b tk (i := i) (by omega))
    refine wp_sipush dX11_here_25 rfl ?_
    refine wp_iand dX11_here_28 ?_
    rw [sb9.2.2]
    refine wp_goto 33 dX11_here_29 (by decide) ?_
    exact wp_iret dX11_here_33 rfl (⟨rfl, rfl⟩)

set_option maxRecDepth 20000 in
theorem S_X11_fails {X : Cx} {h : Hp} (hf : hI h 47 11 = -1) : Spec X mX11_fails 0 [.ref (adr X 47)] h (fun rv h' => rv = some (.int (iI 0)) ∧ h' = sI h 47 11 (hI h 47 10)) := by
  refine spec_wp (Nat.le_of_ble_eq_true rfl) (by decide +kernel) ?_
  refine wp_loc [(0, .ref (adr X 47))] ⟨rfl, trivial⟩ ?_
  refine wp_aload_n dX11_fails_0 rfl ?_
  refine wp_getI dX11_fails_1 flX11_131 rfl rfl ?_
  rw [hf]
  refine wp_iconst dX11_fails_4 ?_
  refine wp_icmpne 16 dX11_fails_5 (by decide) (by unfold InR; omega) (by unfold InR; omega) (fun c5 => ?_) (fun c5 => ?_)
  · exact absurd rfl c5
  · refine wp_aload_n dX11_fails_8 rfl ?_
    refine wp_aload_n dX11_fails_9 rfl ?_
    refine wp_getI dX11_fails_10 flX11_122 rfl rfl ?_
    refine wp_putI dX11_fails_13 plX11_131 rfl rfl ?_
    refine wp_iconst dX11_fails_16 ?_
    exact wp_zret dX11_fails_17 rfl (by omega) (⟨rfl, rfl⟩)

set_option maxRecDepth 20000 in
theorem S_fails2 {X : Cx} {h : Hp} (hf : hI h 47 11 ≠ -1) (hr : InR (hI h 47 11)) : Spec X mX11_fails 0 [.ref (adr X 47)] h (fun rv h' => rv = some (.int (iI 0)) ∧ h' = h) := by
  refine spec_wp (Nat.le_of_ble_eq_true rfl) (by decide +kernel) ?_
  refine wp_loc [(0, .ref (adr X 47))] ⟨rfl, trivial⟩ ?_
  refine wp_aload_n dX11_fails_0 rfl ?_
  refine wp_getI dX11_fails_1 flX11_131 rfl rfl ?_
  refine wp_iconst dX11_fails_4 ?_
  refine wp_icmpne 16 dX11_fails_5 (by decide) hr (by unfold InR; omega) (fun c5 => ?_) (fun c5 => ?_)
  · refine wp_iconst dX11_fails_16 ?_
    exact wp_zret dX11_fails_17 rfl (by omega) (⟨rfl, rfl⟩)
  · exact absurd c5 hf

set_option maxRecDepth 20000 in
theorem S_goesIn0 {X : Cx} {h : Hp} (hf : hI h 47 11 = -1) (hd : hI h 47 12 = 6) : Spec X mX11_goesIn 1 [.ref (adr X 47)] h (fun rv h' => rv = some (.int (iI 0)) ∧ h' = sI h 47 11 (hI h 47 10)) := by
  refine spec_wp (Nat.le_of_ble_eq_true rfl) (by decide +kernel) ?_
  refine wp_loc [(0, .ref (adr X 47))] ⟨rfl, trivial⟩ ?_
  refine wp_aload_n dX11_goesIn_0 rfl ?_
  refine wp_getI dX11_goesIn_1 flX11_134 rfl rfl ?_
  rw [hd]
  refine wp_bipush dX11_goesIn_4 rfl ?_
  refine wp_icmpne 14 dX11_goesIn_6 (by decide) (by unfold InR; omega) (by unfold InR; omega) (fun c6 => ?_) (fun c6 => ?_)
  · exact absurd rfl c6
  · refine wp_aload_n dX11_goesIn_9 rfl ?_
    refine wp_callV dX11_goesIn_10 mlX11_137 mvX11_fails (S_X11_fails hf) rfl rfl (by decide) (by decide) rfl rfl rfl (Nat.le_of_ble_eq_true rfl) ?_
    rintro rv h1 ⟨rfl, rfl⟩
    exact wp_zret dX11_goesIn_13 rfl (by omega) (⟨rfl, rfl⟩)

set_option maxRecDepth 20000 in
theorem S_goesIn1 {X : Cx} {h : Hp} {d : Int} (hd : hI h 47 12 = d) (hd6 : 0 ≤ d ∧ d < 6) : Spec X mX11_goesIn 1 [.ref (adr X 47)] h (fun rv h' => rv = some (.int (iI 1)) ∧ h' = sI (sI h 47 12 (d + 1)) 47 10 (hI h 47 10 + 1)) := by
  refine spec_wp (Nat.le_of_ble_eq_true rfl) (by decide +kernel) ?_
  refine wp_loc [(0, .ref (adr X 47))] ⟨rfl, trivial⟩ ?_
  refine wp_aload_n dX11_goesIn_0 rfl ?_
  refine wp_getI dX11_goesIn_1 flX11_134 rfl rfl ?_
  rw [hd]
  refine wp_bipush dX11_goesIn_4 rfl ?_
  refine wp_icmpne 14 dX11_goesIn_6 (by decide) (by unfold InR; omega) (by unfold InR; omega) (fun c6 => ?_) (fun c6 => ?_)
  · refine wp_aload_n dX11_goesIn_14 rfl ?_
    refine wp_dup dX11_goesIn_15 rfl ?_
    refine wp_getI dX11_goesIn_16 flX11_134 rfl rfl ?_
    rw [hd]
    refine wp_iconst dX11_goesIn_19 ?_
    refine wp_iadd dX11_goesIn_20 ?_
    refine wp_putI dX11_goesIn_21 plX11_134 rfl rfl ?_
    refine wp_aload_n dX11_goesIn_24 rfl ?_
    refine wp_dup dX11_goesIn_25 rfl ?_
    refine wp_getI dX11_goesIn_26 flX11_122 rfl rfl ?_
    rw [hI_sI, if_neg (by omega)]
    refine wp_iconst dX11_goesIn_29 ?_
    refine wp_iadd dX11_goesIn_30 ?_
    refine wp_putI dX11_goesIn_31 plX11_122 rfl rfl ?_
    refine wp_iconst dX11_goesIn_34 ?_
    exact wp_zret dX11_goesIn_35 rfl (by omega) (⟨rfl, rfl⟩)
  · exact absurd c6 (by omega)

set_option maxRecDepth 20000 in
theorem S_takes2 {X : Cx} {h : Hp} {c : Int} (hf : hI h 47 11 ≠ -1) (hr : InR (hI h 47 11)) : Spec X mX11_takes 1 [.ref (adr X 47), .int (iI c)] h (fun rv h' => rv = some (.int (iI 0)) ∧ h' = h) := by
  refine spec_wp (Nat.le_of_ble_eq_true rfl) (by decide +kernel) ?_
  refine wp_loc [(0, .ref (adr X 47)), (1, .int (iI c))] ⟨rfl, rfl, trivial⟩ ?_
  refine wp_aload_n dX11_takes_0 rfl ?_
  refine wp_getI dX11_takes_1 flX11_131 rfl rfl ?_
  refine wp_iconst dX11_takes_4 ?_
  refine wp_icmpne 16 dX11_takes_5 (by decide) hr (by unfold InR; omega) (fun c5 => ?_) (fun c5 => ?_)
  · refine wp_aload_n dX11_takes_16 rfl ?_
    refine wp_callV dX11_takes_17 mlX11_137 mvX11_fails (S_fails2 hf hr) rfl rfl (by decide) (by decide) rfl rfl rfl (Nat.le_of_ble_eq_true rfl) ?_
    rintro rv h1 ⟨rfl, rfl⟩
    exact wp_zret dX11_takes_20 rfl (by omega) (⟨rfl, rfl⟩)
  · exact absurd c5 hf

set_option maxRecDepth 20000 in
theorem S_X11_takes {X : Cx} {h : Hp} {t : List Int} {b B i : Nat} {c : Int} (tx : TXm h t b B) (tk : TOK t) (hi : hI h 47 10 = i) (hl : i ≤ t.length) (hf : hI h 47 11 = -1) (hc : InR c) : Spec X mX11_takes 1 [.ref (adr X 47), .int (iI c)] h (fun rv h' => rv = some (.int (iI (b2i (lk t i = c)))) ∧ h' = (if lk t i = c then sI h 47 10 (((sk t i : Nat) : Int) + 1) else sI (sI h 47 10 ((sk t i : Nat) : Int)) 47 11 ((sk t i : Nat) : Int))) := by
  have lb := lk_b tk hl
  refine spec_wp (Nat.le_of_ble_eq_true rfl) (by decide +kernel) ?_
  refine wp_loc [(0, .ref (adr X 47)), (1, .int (iI c))] ⟨rfl, rfl, trivial⟩ ?_
  refine wp_aload_n dX11_takes_0 rfl ?_
  refine wp_getI dX11_takes_1 flX11_131 rfl rfl ?_
  rw [hf]
  refine wp_iconst dX11_takes_4 ?_
  refine wp_icmpne 16 dX11_takes_5 (by decide) (by unfold InR; omega) (by unfold InR; omega) (fun c5 => ?_) (fun c5 => ?_)
  · exact absurd rfl c5
  · refine wp_aload_n dX11_takes_8 rfl ?_
    refine wp_callV dX11_takes_9 mlX11_141 mvX11_look (S_X11_look tx tk hi hl) rfl rfl (by decide) (by decide) rfl rfl rfl (Nat.le_of_ble_eq_true rfl) ?_
    rintro rv h1 ⟨rfl, rfl⟩
    refine wp_iload_n dX11_takes_12 rfl ?_
    refine wp_icmpeq 21 dX11_takes_13 (by decide) (by unfold InR; omega) hc (fun c13 => ?_) (fun c13 => ?_)
    · refine wp_aload_n dX11_takes_21 rfl ?_
      refine wp_dup dX11_takes_22 rfl ?_
      refine wp_getI dX11_takes_23 flX11_122 rfl rfl ?_
      rw [hI_same]
      refine wp_iconst dX11_takes_26 ?_
      refine wp_iadd dX11_takes_27 ?_
      refine wp_putI dX11_takes_28 plX11_122 rfl rfl ?_
      rw [sI_sI]
      refine wp_iconst dX11_takes_31 ?_
      exact wp_zret dX11_takes_32 rfl (by omega) (⟨vb1 c13, by rw [if_pos c13]⟩)
    · refine wp_aload_n dX11_takes_16 rfl ?_
      refine wp_callV dX11_takes_17 mlX11_137 mvX11_fails (S_X11_fails (by rw [hI_10 (by decide)]; exact hf)) rfl rfl (by decide) (by decide) rfl rfl rfl (Nat.le_of_ble_eq_true rfl) ?_
      rintro rv h1 ⟨rfl, rfl⟩
      rw [hI_same]
      exact wp_zret dX11_takes_20 rfl (by omega) (⟨vb0 c13, by rw [if_neg c13]⟩)

set_option maxRecDepth 20000 in
theorem S_X11_isSign {X : Cx} {h : Hp} {x : Int} (hx : InR x) : Spec X mX11_isSign 0 [.int (iI x)] h (fun rv h' => rv = some (.int (iI (b2i (x = 61 ∨ x = 60 ∨ x = 62)))) ∧ h' = h) := by
  refine spec_wp (Nat.le_of_ble_eq_true rfl) (by decide +kernel) ?_
  refine wp_loc [(0, .int (iI x))] ⟨rfl, trivial⟩ ?_
  refine wp_iload_n dX11_isSign_0 rfl ?_
  refine wp_bipush dX11_isSign_1 rfl ?_
  refine wp_icmpeq 18 dX11_isSign_3 (by decide) (by first | assumption | (unfold InR; omega)) (by first | assumption | (unfold InR; omega)) (fun c3 => ?_) (fun c3 => ?_)
  · refine wp_iconst dX11_isSign_18 ?_
    refine wp_goto 23 dX11_isSign_19 (by decide) ?_
    exact wp_zret dX11_isSign_23 rfl (by omega) (⟨by first | exact vb1 (by omega) | exact vb0 (by omega), rfl⟩)
  · refine wp_iload_n dX11_isSign_6 rfl ?_
    refine wp_bipush dX11_isSign_7 rfl ?_
    refine wp_icmpeq 18 dX11_isSign_9 (by decide) (by first | assumption | (unfold InR; omega)) (by first | assumption | (unfold InR; omega)) (fun c9 => ?_) (fun c9 => ?_)
    · refine wp_iconst dX11_isSign_18 ?_
      refine wp_goto 23 dX11_isSign_19 (by decide) ?_
      exact wp_zret dX11_isSign_23 rfl (by omega) (⟨by first | exact vb1 (by omega) | exact vb0 (by omega), rfl⟩)
    · refine wp_iload_n dX11_isSign_12 rfl ?_
      refine wp_bipush dX11_isSign_13 rfl ?_
      refine wp_icmpne 22 dX11_isSign_15 (by decide) (by first | assumption | (unfold InR; omega)) (by first | assumption | (unfold InR; omega)) (fun c15 => ?_) (fun c15 => ?_)
      · refine wp_iconst dX11_isSign_22 ?_
        exact wp_zret dX11_isSign_23 rfl (by omega) (⟨by first | exact vb1 (by omega) | exact vb0 (by omega), rfl⟩)
      · refine wp_iconst dX11_isSign_18 ?_
        refine wp_goto 23 dX11_isSign_19 (by decide) ?_
        exact wp_zret dX11_isSign_23 rfl (by omega) (⟨by first | exact vb1 (by omega) | exact vb0 (by omega), rfl⟩)

set_option maxRecDepth 20000 in
theorem S_X11_isAmong {X : Cx} {h : Hp} {s : Nat} {c : Int} (hs : s < 4) (hc : InR c) : Spec X mX11_isAmong 4 [.ref (adr X (110 + s)), .int (iI c)] h (fun rv h' => rv = some (.int (iI (b2i (ixF c (sls s) 0 ≠ -1)))) ∧ h' = h) := by
  have sl := sls_len hs
  refine spec_wp (Nat.le_of_ble_eq_true rfl) (by decide +kernel) ?_
  refine wp_loc [(0, .ref (adr X (110 + s))), (1, .int (iI c))] ⟨rfl, rfl, trivial⟩ ?_
  have Lia : ∀ (n : Nat) (k : Nat), (k + n = sln s) → (ixF c (sls s) 0 = ixF c ((sls s).drop k) (k : Int)) → WP X mX11_isAmong 4 2 [(0, .ref (adr X (110 + s))), (1, .int (iI c)), (2, .int (iI (k : Int)))] [] h (fun rv h' => rv = some (.int (iI (b2i (ixF c (sls s) 0 ≠ -1)))) ∧ h' = h) := by
    intro n
    induction n with
    | zero =>
      intro k hn hV
      refine wp_iload_n dX11_isAmong_2 rfl ?_
      refine wp_aload_n dX11_isAmong_3 rfl ?_
      refine wp_callX (i := s) hs dX11_isAmong_4 mlX11_102 mvJ0_length_8abf5 (S_J0_length_8abf5 hs) rfl rfl (by decide) (by decide) rfl (Nat.le_of_ble_eq_true rfl) ?_
      refine wp_icmpge 27 dX11_isAmong_7 (by decide) (by unfold InR; omega) (by unfold InR; omega) (fun c7 => ?_) (fun c7 => ?_)
      · refine wp_iconst dX11_isAmong_27 ?_
        exact wp_zret dX11_isAmong_28 rfl (by omega) (⟨vb0 (fun z => z (by rw [hV, List.drop_of_length_le (by omega)]; rfl)), rfl⟩)
      · exact absurd c7 (by omega)
    | succ n ih =>
      intro k hn hV
      refine wp_iload_n dX11_isAmong_2 rfl ?_
      refine wp_aload_n dX11_isAmong_3 rfl ?_
      refine wp_callX (i := s) hs dX11_isAmong_4 mlX11_102 mvJ0_length_8abf5 (S_J0_length_8abf5 hs) rfl rfl (by decide) (by decide) rfl (Nat.le_of_ble_eq_true rfl) ?_
      refine wp_icmpge 27 dX11_isAmong_7 (by decide) (by unfold InR; omega) (by unfold InR; omega) (fun c7 => ?_) (fun c7 => ?_)
      · exact absurd c7 (by omega)
      · refine wp_aload_n dX11_isAmong_10 rfl ?_
        refine wp_iload_n dX11_isAmong_11 rfl ?_
        refine wp_callX (i := s) hs dX11_isAmong_12 mlX11_108 mvJ0_charAt_5068e (S_J0_charAt_5068e (k := ((k : Nat) : Int)) hs (by omega)) rfl rfl (by decide) (by decide) rfl (Nat.le_of_ble_eq_true rfl) ?_
        rw [show ((k : Int)).toNat = k by omega]
        have xb := (sls_b hs (k := k) (by omega)).2
        have hd9 : (sls s).drop k = (sls s).getD k 0 :: (sls s).drop (k + 1) := by rw [List.drop_eq_getElem_cons (by omega), List.getD_eq_getElem?_getD, List.getElem?_eq_getElem (by omega)]; rfl
        rw [hd9, ixF] at hV
        refine wp_iload_n dX11_isAmong_15 rfl ?_
        refine wp_icmpne 21 dX11_isAmong_16 (by decide) (by unfold InR; omega) hc (fun c16 => ?_) (fun c16 => ?_)
        · refine wp_iinc dX11_isAmong_21 rfl (by decide) ?_
          refine wp_goto 2 dX11_isAmong_24 (by decide) ?_
          rw [if_neg c16] at hV
          refine wp_loc [(0, .ref (adr X (110 + s))), (1, .int (iI c)), (2, .int (iI ((k + 1 : Nat) : Int)))] ⟨rfl, rfl, rfl, trivial⟩ ?_
          exact ih (k + 1) (by omega) hV
        · refine wp_iconst dX11_isAmong_19 ?_
          exact wp_zret dX11_isAmong_20 rfl (by omega) (⟨vb1 (by rw [hV, if_pos c16]; omega), rfl⟩)
  refine wp_iconst dX11_isAmong_0 ?_
  refine wp_istore_n dX11_isAmong_1 (by decide) ?_
  refine wp_loc [(0, .ref (adr X (110 + s))), (1, .int (iI c)), (2, .int (iI ((0 : Nat) : Int)))] ⟨rfl, rfl, rfl, trivial⟩ ?_
  exact Lia (sln s) 0 (by omega) rfl

set_option maxRecDepth 20000 in
theorem S_X11_placeOf {X : Cx} {h : Hp} {s : Nat} {c : Int} (hs : s < 4) (hc : InR c) : Spec X mX11_placeOf 4 [.ref (adr X (110 + s)), .int (iI c)] h (fun rv h' => rv = some (.int (iI (ixF c (sls s) 0))) ∧ h' = h) := by
  have sl := sls_len hs
  refine spec_wp (Nat.le_of_ble_eq_true rfl) (by decide +kernel) ?_
  refine wp_loc [(0, .ref (adr X (110 + s))), (1, .int (iI c))] ⟨rfl, rfl, trivial⟩ ?_
  have Lia : ∀ (n : Nat) (k : Nat), (k + n = sln s) → (ixF c (sls s) 0 = ixF c ((sls s).drop k) (k : Int)) → WP X mX11_placeOf 4 2 [(0, .ref (adr X (110 + s))), (1, .int (iI c)), (2, .int (iI (k : Int)))] [] h (fun rv h' => rv = some (.int (iI (ixF c (sls s) 0))) ∧ h' = h) := by
    intro n
    induction n with
    | zero =>
      intro k hn hV
      refine wp_iload_n dX11_placeOf_2 rfl ?_
      refine wp_aload_n dX11_placeOf_3 rfl ?_
      refine wp_callX (i := s) hs dX11_placeOf_4 mlX11_102 mvJ0_length_8abf5 (S_J0_length_8abf5 hs) rfl rfl (by decide) (by decide) rfl (Nat.le_of_ble_eq_true rfl) ?_
      refine wp_icmpge 27 dX11_placeOf_7 (by decide) (by unfold InR; omega) (by unfold InR; omega) (fun c7 => ?_) (fun c7 => ?_)
      · refine wp_iconst dX11_placeOf_27 ?_
        exact wp_iret dX11_placeOf_28 rfl (⟨vi (by rw [hV, List.drop_of_length_le (by omega)]; rfl), rfl⟩)
      · exact absurd c7 (by omega)
    | succ n ih =>
      intro k hn hV
      refine wp_iload_n dX11_placeOf_2 rfl ?_
      refine wp_aload_n dX11_placeOf_3 rfl ?_
      refine wp_callX (i := s) hs dX11_placeOf_4 mlX11_102 mvJ0_length_8abf5 (S_J0_length_8abf5 hs) rfl rfl (by decide) (by decide) rfl (Nat.le_of_ble_eq_true rfl) ?_
      refine wp_icmpge 27 dX11_placeOf_7 (by decide) (by unfold InR; omega) (by unfold InR; omega) (fun c7 => ?_) (fun c7 => ?_)
      · exact absurd c7 (by omega)
      · refine wp_aload_n dX11_placeOf_10 rfl ?_
        refine wp_iload_n dX11_placeOf_11 rfl ?_
        refine wp_callX (i := s) hs dX11_placeOf_12 mlX11_108 mvJ0_charAt_5068e (S_J0_charAt_5068e (k := ((k : Nat) : Int)) hs (by omega)) rfl rfl (by decide) (by decide) rfl (Nat.le_of_ble_eq_true rfl) ?_
        rw [show ((k : Int)).toNat = k by omega]
        have xb := (sls_b hs (k := k) (by omega)).2
        have hd9 : (sls s).drop k = (sls s).getD k 0 :: (sls s).drop (k + 1) := by rw [List.drop_eq_getElem_cons (by omega), List.getD_eq_getElem?_getD, List.getElem?_eq_getElem (by omega)]; rfl
        rw [hd9, ixF] at hV
        refine wp_iload_n dX11_placeOf_15 rfl ?_
        refine wp_icmpne 21 dX11_placeOf_16 (by decide) (by unfold InR; omega) hc (fun c16 => ?_) (fun c16 => ?_)
        · refine wp_iinc dX11_placeOf_21 rfl (by decide) ?_
          refine wp_goto 2 dX11_placeOf_24 (by decide) ?_
          rw [if_neg c16] at hV
          refine wp_loc [(0, .ref (adr X (110 + s))), (1, .int (iI c)), (2, .int (iI ((k + 1 : Nat) : Int)))] ⟨rfl, rfl, rfl, trivial⟩ ?_
          exact ih (k + 1) (by omega) hV
        · refine wp_iload_n dX11_placeOf_19 rfl ?_
          exact wp_iret dX11_placeOf_20 rfl (⟨vi (by rw [hV, if_pos c16]), rfl⟩)
  refine wp_iconst dX11_placeOf_0 ?_
  refine wp_istore_n dX11_placeOf_1 (by decide) ?_
  refine wp_loc [(0, .ref (adr X (110 + s))), (1, .int (iI c)), (2, .int (iI ((0 : Nat) : Int)))] ⟨rfl, rfl, rfl, trivial⟩ ?_
  exact Lia (sln s) 0 (by omega) rfl

set_option maxRecDepth 20000 in
theorem S_X11_within {X : Cx} {h : Hp} {x : Int} (hx : InL x) : Spec X mX11_within 1 [.long (lI x)] h (fun rv h' => rv = some (.int (iI (bnd x))) ∧ h' = h) := by
  have hb := bnd_R x
  have k1 : ((1000000 : Int64)) = lI 1000000 := rfl
  have k2 : ((-1000000 : Int64)) = lI (-1000000) := rfl
  unfold InL at hx
  refine spec_wp (Nat.le_of_ble_eq_true rfl) (by decide +kernel) ?_
  refine wp_loc [(0, .long (lI x))] ⟨rfl, trivial⟩ ?_
  refine wp_ldc2 (v := -1000000) dX11_within_0 klX11_144 ?_
  refine wp_ldc2 (v := 1000000) dX11_within_3 klX11_146 ?_
  refine wp_lload_n dX11_within_6 rfl ?_
  refine wp_callSp dX11_within_7 mlX11_148 msJ9_min_f86c9 (S_J9_min_f86c9 (x := 1000000) (y := x) (by unfold InL; omega) hx) rfl rfl (by decide) (by decide) (Nat.le_of_ble_eq_true rfl) ?_
  refine wp_callSp dX11_within_10 mlX11_153 msJ9_max_f86c9 (S_J9_max_f86c9 (x := -1000000) (y := min 1000000 x) (by unfold InL; omega) (by unfold InL; omega)) rfl rfl (by decide) (by decide) (Nat.le_of_ble_eq_true rfl) ?_
  refine wp_l2i dX11_within_13 ?_
  exact wp_iret dX11_within_14 rfl (⟨by refine congrArg some (congrArg Value.int ?_); rw [l2i_I, iI_of]; rfl, rfl⟩)

