/-! the reference: the ground is read -/
def SGr (c j : Nat) : Prop := (c = 47 ∧ (j = 10 ∨ j = 11 ∨ j = 12 ∨ j = 25 ∨ j = 29)) ∨ c = 53
theorem TXm.ks {S : Nat → Nat → Prop} {h h' : Hp} {t : List Int} {b B : Nat} (x : TXm h t b B) (k : Kp S h h') (hs : ∀ c j, S c j → ¬ (c = 48 ∨ c = 49 ∨ (c = 47 ∧ (j = 8 ∨ j = 9)))) : TXm h' t b B := ⟨by unfold hR; rw [k.2]; exact x.1, x.2.1, by rw [k.1 47 8 (fun q => hs _ _ q (by omega))]; exact x.2.2.1, by rw [k.1 47 9 (fun q => hs _ _ q (by omega))]; exact x.2.2.2.1, fun j hj => by rw [k.1 b _ (fun q => hs _ _ q (by have := x.2.1; omega))]; exact x.2.2.2.2 j hj⟩
theorem TXm.gr {h h' : Hp} {t : List Int} {b B : Nat} (x : TXm h t b B) (k : Kp SGr h h') : TXm h' t b B := x.ks k (by unfold SGr; omega)
theorem Kp.gr {h h' : Hp} (k : Kp SP h h') : Kp SGr h h' := k.mono (fun c j q => by unfold SP at q; unfold SGr; omega)
theorem kpG {h : Hp} {a j : Nat} {v : Int} (hs : SGr a j) : Kp SGr h (sI h a j v) := Kp.sI hs
theorem getD_ap {l : List Int} {x : Int} {j : Nat} (hj : j < (l ++ [x]).length) (d : Int) : (l ++ [x]).getD j d = if j = l.length then x else l.getD j d := by
  rw [List.length_append, List.length_singleton] at hj
  rw [List.getD_eq_getElem?_getD, List.getD_eq_getElem?_getD]
  by_cases q : j = l.length
  · rw [if_pos q, q]; simp
  · rw [if_neg q, List.getElem?_append_left (by omega)]

set_option maxRecDepth 20000 in
theorem S_X11_readGround {X : Cx} {h : Hp} {t : List Int} {b B i0 : Nat} (tx : TXm h t b B) (tk : TOK t) (hi : hI h 47 10 = i0) (hl : i0 ≤ t.length) (hf : hI h 47 11 = -1) (h25 : hI h 47 25 = 0) : Spec X mX11_readGround 3 [.ref (adr X 47)] h (fun rv h' => rv = none ∧ (∀ e, grF t 24 [] i0 = .inl e → hI h' 47 11 = (e : Int)) ∧ (∀ k hs, grF t 24 [] i0 = .inr (k, hs) → hI h' 47 11 = -1 ∧ hI h' 47 10 = (k : Int) ∧ hI h' 47 25 = (hs.length : Int) ∧ hI h' 47 29 = 1 ∧ ∀ j : Nat, j < hs.length → hI h' 53 j = hs.getD j 0) ∧ Kp SGr h h') := by
  have t160 := tk.1
  obtain ⟨V, hV⟩ : ∃ V, V = grF t 24 [] i0 := ⟨_, rfl⟩
  rw [← hV]
  refine spec_wp (Nat.le_of_ble_eq_true rfl) (by decide +kernel) ?_
  refine wp_loc [(0, .ref (adr X 47))] ⟨rfl, trivial⟩ ?_
  have Lp : ∀ (n : Nat) (hs : List Int) (i : Nat) (h1 : Hp), hs.length + n = 24 → 1 ≤ n → i ≤ t.length → hI h1 47 10 = (i : Int) → hI h1 47 11 = -1 → hI h1 47 25 = (hs.length : Int) → hI h1 47 29 = 1 → (∀ j : Nat, j < hs.length → hI h1 53 j = hs.getD j 0) → Kp SGr h h1 → V = grF t n hs i → WP X mX11_readGround 3 7 [(0, .ref (adr X 47)), (1, .int (iI 1))] [] h1 (fun rv h' => rv = none ∧ (∀ e, V = .inl e → hI h' 47 11 = (e : Int)) ∧ (∀ k hs, V = .inr (k, hs) → hI h' 47 11 = -1 ∧ hI h' 47 10 = (k : Int) ∧ hI h' 47 25 = (hs.length : Int) ∧ hI h' 47 29 = 1 ∧ ∀ j : Nat, j < hs.length → hI h' 53 j = hs.getD j 0) ∧ Kp SGr h h') := by
    intro n
    induction n with
    | zero => intro hs i h1 q1 q2; omega
    | succ n ih =>
      intro hs i h1 hn h1n hi hat hf1 h25 h29 h53 kp1 hV
      have sb := sk_b t hi
      unfold grF at hV
      refine wp_iload_n dX11_readGround_7 rfl ?_
      refine wp_ifeq 99 dX11_readGround_8 (by decide) (by unfold InR; omega) (fun c8 => ?_) (fun c8 => ?_)
      · exact absurd c8 (by decide)
      · refine wp_aload_n dX11_readGround_11 rfl ?_
        refine wp_iconst dX11_readGround_12 ?_
        refine wp_bipush dX11_readGround_13 rfl ?_
        refine wp_callV dX11_readGround_15 mlX11_226 mvX11_number (S_X11_number (i := i) (lo := 0) (hi := 99) (tx.gr kp1) tk hat hi hf1 (by unfold InR; omega) (by unfold InR; omega)) rfl rfl (by omega) (by decide) rfl rfl rfl (Nat.le_of_ble_eq_true rfl) ?_
        rintro rv h2 ⟨⟨z, rfl, hz, hzv⟩, he2, hr2, kp2⟩
        have hcs : (∃ e, nm t 2 (sk t i) = .inl e) ∨ ∃ k x, nm t 2 (sk t i) = .inr (k, x) := by
          cases nm t 2 (sk t i) with
          | inl e => exact Or.inl ⟨e, rfl⟩
          | inr z => exact Or.inr ⟨z.1, z.2, rfl⟩
        rcases hcs with ⟨e, hw⟩ | ⟨k, x, hw⟩
        · have he2 := he2 e (by rw [hw]; rfl)
          have eb := nml tk (by decide) sb.2 hw
          rw [hw] at hV
          have hV : V = .inl e := hV
          subst hV
          refine wp_istore_n dX11_readGround_18 (by decide) ?_
          refine wp_aload_n dX11_readGround_19 rfl ?_
          refine wp_getI dX11_readGround_20 flX11_131 rfl rfl ?_
          rw [he2]
          refine wp_iconst dX11_readGround_23 ?_
          refine wp_icmpeq 28 dX11_readGround_24 (by decide) (by unfold InR; omega) (by unfold InR; omega) (fun c24 => ?_) (fun c24 => ?_)
          · exact absurd c24 (by omega)
          · exact wp_ret dX11_readGround_27 rfl (⟨rfl, fun e9 q9 => (by cases q9; exact he2), fun k9 x9 e9 => (by cases e9), kp1.tr kp2.gr⟩)
        · have hr := nmr tk (by decide) sb.2 hw
          have hx99 : 0 ≤ x ∧ x ≤ 99 := by omega
          have hnu : nuR 0 99 (nm t 2 (sk t i)) = .inr (k, x) := by rw [hw]; exact if_neg (by omega)
          obtain rfl := hzv k x hnu
          have hr2 := hr2 k z hnu
          have e25 : hI h2 47 25 = hs.length := by rw [kp2.1 47 25 (by unfold SP; omega)]; exact h25
          have lb1 := lk_b tk hr.2.1
          have sb1 := sk_b t hr.2.1
          rw [hw] at hV
          have hV : V = if lk t k = 44 then (if hs.length + 1 = 24 then .inl (sk t k) else grF t n (hs ++ [z]) (sk t k + 1)) else if 4 ≤ hs.length + 1 ∧ (hs.length + 1) % 2 = 0 then .inr (sk t k, hs ++ [z]) else .inl (sk t k) := hV
          refine wp_istore_n dX11_readGround_18 (by decide) ?_
          refine wp_aload_n dX11_readGround_19 rfl ?_
          refine wp_getI dX11_readGround_20 flX11_131 rfl rfl ?_
          rw [hr2.1]
          refine wp_iconst dX11_readGround_23 ?_
          refine wp_icmpeq 28 dX11_readGround_24 (by decide) (by unfold InR; omega) (by unfold InR; omega) (fun c24 => ?_) (fun c24 => ?_)
          · refine wp_aload_n dX11_readGround_28 rfl ?_
            refine wp_getC dX11_readGround_29 flX11_40 rfl rfl ?_
            refine wp_aload_n dX11_readGround_32 rfl ?_
            refine wp_getI dX11_readGround_33 flX11_230 rfl rfl ?_
            rw [e25]
            refine wp_iload_n dX11_readGround_36 rfl ?_
            refine wp_iast (n := 24) dX11_readGround_37 rfl (by omega) (by omega) ?_
            rw [Int.toNat_natCast]
            refine wp_aload_n dX11_readGround_38 rfl ?_
            refine wp_dup dX11_readGround_39 rfl ?_
            refine wp_getI dX11_readGround_40 flX11_230 rfl rfl ?_
            rw [hI_sI, if_neg (by omega), e25]
            refine wp_iconst dX11_readGround_43 ?_
            refine wp_iadd dX11_readGround_44 ?_
            refine wp_putI dX11_readGround_45 plX11_230 rfl rfl ?_
            obtain ⟨h3, eh3⟩ : ∃ h3, h3 = sI (sI h2 53 hs.length z) 47 25 ((hs.length : Int) + 1) := ⟨_, rfl⟩
            rw [← eh3]
            have k3 : Kp SGr h h3 := by rw [eh3]; exact ((kp1.tr kp2.gr).tr (kpG (Or.inr rfl))).tr (kpG (by unfold SGr; omega))
            have f11 : hI h3 47 11 = -1 := by rw [eh3, hI_sI, if_neg (by omega), hI_sI, if_neg (by omega)]; exact hr2.1
            have f10 : hI h3 47 10 = (k : Int) := by rw [eh3, hI_sI, if_neg (by omega), hI_sI, if_neg (by omega)]; exact hr2.2
            have f25 : hI h3 47 25 = (hs.length : Int) + 1 := by rw [eh3, hI_same]
            have f29 : hI h3 47 29 = 1 := by rw [eh3, hI_sI, if_neg (by omega), hI_sI, if_neg (by omega), kp2.1 47 29 (by unfold SP; omega)]; exact h29
            have f53 : ∀ j : Nat, j < (hs ++ [z]).length → hI h3 53 j = (hs ++ [z]).getD j 0 := fun j hj => by
              rw [getD_ap hj, eh3, hI_sI, if_neg (by omega), hI_sI]
              rw [List.length_append, List.length_singleton] at hj
              by_cases q : j = hs.length
              · rw [if_pos ⟨rfl, q⟩, if_pos q]
              · rw [if_neg (fun w => q w.2), if_neg q, kp2.1 53 j (by unfold SP; omega)]; exact h53 j (by omega)
            have tx3 := tx.gr k3
            refine wp_aload_n dX11_readGround_48 rfl ?_
            refine wp_callV dX11_readGround_49 mlX11_141 mvX11_look (S_X11_look (i := k) tx3 tk f10 hr.2.1) rfl rfl (by omega) (by decide) rfl rfl rfl (Nat.le_of_ble_eq_true rfl) ?_
            rintro rv h9 ⟨rfl, rfl⟩
            refine wp_bipush dX11_readGround_52 rfl ?_
            refine wp_icmpne 61 dX11_readGround_54 (by decide) (by unfold InR; omega) (by unfold InR; omega) (fun c54 => ?_) (fun c54 => ?_)
            · rw [if_neg c54] at hV
              refine wp_iconst dX11_readGround_61 ?_
              refine wp_istore_n dX11_readGround_62 (by decide) ?_
              refine wp_iload_n dX11_readGround_63 rfl ?_
              refine wp_ifeq 82 dX11_readGround_64 (by decide) (by unfold InR; omega) (fun c64 => ?_) (fun c64 => ?_)
              · refine wp_iload_n dX11_readGround_82 rfl ?_
                refine wp_ifeq 96 dX11_readGround_83 (by decide) (by unfold InR; omega) (fun c83 => ?_) (fun c83 => ?_)
                · refine wp_goto 7 dX11_readGround_96 (by decide) ?_
                  refine wp_loc [(0, .ref (adr X 47)), (1, .int (iI 0))] ⟨rfl, rfl, trivial⟩ ?_
                  refine wp_iload_n dX11_readGround_7 rfl ?_
                  refine wp_ifeq 99 dX11_readGround_8 (by decide) (by unfold InR; omega) (fun c8 => ?_) (fun c8 => ?_)
                  · refine wp_aload_n dX11_readGround_99 rfl ?_
                    refine wp_getI dX11_readGround_100 flX11_230 rfl rfl ?_
                    rw [hI_10 (by decide), f25]
                    refine wp_iconst dX11_readGround_103 ?_
                    refine wp_icmplt 116 dX11_readGround_104 (by decide) (by unfold InR; omega) (by unfold InR; omega) (fun c104 => ?_) (fun c104 => ?_)
                    · refine wp_aload_n dX11_readGround_116 rfl ?_
                      refine wp_callV dX11_readGround_117 mlX11_137 mvX11_fails (S_X11_fails (by rw [hI_10 (by decide)]; exact f11)) rfl rfl (by omega) (by decide) rfl rfl rfl (Nat.le_of_ble_eq_true rfl) ?_
                      rintro rv h9 ⟨rfl, rfl⟩
                      rw [hI_same]
                      refine wp_pop dX11_readGround_120 rfl ?_
                      exact wp_ret dX11_readGround_121 rfl (by
                    rw [if_neg (by omega)] at hV
                    subst hV
                    exact ⟨rfl, fun e9 q9 => (by cases q9; exact hI_same), fun k9 x9 e9 => (by cases e9), (k3.tr kp10.gr).tr kp11.gr⟩)
                    · refine wp_aload_n dX11_readGround_107 rfl ?_
                      refine wp_getI dX11_readGround_108 flX11_230 rfl rfl ?_
                      rw [hI_10 (by decide), f25]
                      refine wp_iconst dX11_readGround_111 ?_
                      refine wp_iremp dX11_readGround_112 (by omega) (by omega) (by unfold InR; omega) (by unfold InR; omega) ?_
                      refine wp_ifeq 121 dX11_readGround_113 (by decide) (by unfold InR; omega) (fun c113 => ?_) (fun c113 => ?_)
                      · exact wp_ret dX11_readGround_121 rfl (by
                    rw [if_pos (by omega)] at hV
                    subst hV
                    exact ⟨rfl, fun e9 q9 => (by cases q9), fun k9 x9 e9 => (by cases e9; exact ⟨by rw [hI_10 (by decide)]; exact f11, hI_same, by rw [hI_10 (by decide), f25, List.length_append, List.length_singleton]; omega, by rw [hI_10 (by decide)]; exact f29, fun j hj => by rw [hI_sI, if_neg (by omega)]; exact f53 j hj⟩), k3.tr kp10.gr⟩)
                      · refine wp_aload_n dX11_readGround_116 rfl ?_
                        refine wp_callV dX11_readGround_117 mlX11_137 mvX11_fails (S_X11_fails (by rw [hI_10 (by decide)]; exact f11)) rfl rfl (by omega) (by decide) rfl rfl rfl (Nat.le_of_ble_eq_true rfl) ?_
                        rintro rv h9 ⟨rfl, rfl⟩
                        rw [hI_same]
                        refine wp_pop dX11_readGround_120 rfl ?_
                        exact wp_ret dX11_readGround_121 rfl (by
                    rw [if_neg (by omega)] at hV
                    subst hV
                    exact ⟨rfl, fun e9 q9 => (by cases q9; exact hI_same), fun k9 x9 e9 => (by cases e9), (k3.tr kp10.gr).tr kp11.gr⟩)
                  · exact absurd rfl c8
                · exact absurd rfl c83
              · exact absurd rfl c64
            · rw [if_pos c54] at hV
              have lin := lk_in tk hr.2.1 (by omega : lk t k ≠ -1)
              refine wp_iconst dX11_readGround_57 ?_
              refine wp_goto 62 dX11_readGround_58 (by decide) ?_
              refine wp_istore_n dX11_readGround_62 (by decide) ?_
              refine wp_iload_n dX11_readGround_63 rfl ?_
              refine wp_ifeq 82 dX11_readGround_64 (by decide) (by unfold InR; omega) (fun c64 => ?_) (fun c64 => ?_)
              · exact absurd c64 (by decide)
              · refine wp_aload_n dX11_readGround_67 rfl ?_
                refine wp_getI dX11_readGround_68 flX11_230 rfl rfl ?_
                rw [hI_10 (by decide), f25]
                refine wp_bipush dX11_readGround_71 rfl ?_
                refine wp_icmpne 82 dX11_readGround_73 (by decide) (by unfold InR; omega) (by unfold InR; omega) (fun c73 => ?_) (fun c73 => ?_)
                · refine wp_iload_n dX11_readGround_82 rfl ?_
                  refine wp_ifeq 96 dX11_readGround_83 (by decide) (by unfold InR; omega) (fun c83 => ?_) (fun c83 => ?_)
                  · exact absurd c83 (by decide)
                  · refine wp_aload_n dX11_readGround_86 rfl ?_
                    refine wp_dup dX11_readGround_87 rfl ?_
                    refine wp_getI dX11_readGround_88 flX11_122 rfl rfl ?_
                    rw [hI_same]
                    refine wp_iconst dX11_readGround_91 ?_
                    refine wp_iadd dX11_readGround_92 ?_
                    refine wp_putI dX11_readGround_93 plX11_122 rfl rfl ?_
                    rw [sI_sI, show ((sk t k : Nat) : Int) + 1 = ((sk t k + 1 : Nat) : Int) by omega]
                    refine wp_goto 7 dX11_readGround_96 (by decide) ?_
                    rw [if_neg (by omega)] at hV
                    refine wp_loc [(0, .ref (adr X 47)), (1, .int (iI 1))] ⟨rfl, rfl, trivial⟩ ?_
                    exact ih (hs ++ [z]) (sk t k + 1) (sI h3 47 10 ((sk t k + 1 : Nat) : Int)) (by rw [List.length_append, List.length_singleton]; omega) (by omega) (by omega) hI_same (by rw [hI_10 (by decide)]; exact f11) (by rw [hI_10 (by decide), f25, List.length_append, List.length_singleton]; omega) (by rw [hI_10 (by decide)]; exact f29) (fun j hj => by rw [hI_sI, if_neg (by omega)]; exact f53 j hj) (k3.tr kp10.gr) hV
                · refine wp_aload_n dX11_readGround_76 rfl ?_
                  refine wp_callV dX11_readGround_77 mlX11_137 mvX11_fails (S_X11_fails (by rw [hI_10 (by decide)]; exact f11)) rfl rfl (by omega) (by decide) rfl rfl rfl (Nat.le_of_ble_eq_true rfl) ?_
                  rintro rv h9 ⟨rfl, rfl⟩
                  rw [hI_same]
                  refine wp_pop dX11_readGround_80 rfl ?_
                  exact wp_ret dX11_readGround_81 rfl (by
            rw [if_pos (by omega)] at hV
            subst hV
            exact ⟨rfl, fun e9 q9 => (by cases q9; exact hI_same), fun k9 x9 e9 => (by cases e9), (k3.tr kp10.gr).tr kp11.gr⟩)
          · exact absurd rfl c24
  refine wp_aload_n dX11_readGround_0 rfl ?_
  refine wp_iconst dX11_readGround_1 ?_
  refine wp_putZ dX11_readGround_2 plX11_223 rfl rfl (by omega) ?_
  refine wp_iconst dX11_readGround_5 ?_
  refine wp_istore_n dX11_readGround_6 (by decide) ?_
  refine wp_loc [(0, .ref (adr X 47)), (1, .int (iI 1))] ⟨rfl, rfl, trivial⟩ ?_
  exact Lp 24 [] i0 (sI h 47 29 1) (by decide) (by decide) hl (by rw [hI_sI, if_neg (by omega)]; exact hi) (by rw [hI_sI, if_neg (by omega)]; exact hf) (by rw [hI_sI, if_neg (by omega)]; exact h25) hI_same (fun j hj => by cases hj) (kpG (by unfold SGr; omega)) hV

