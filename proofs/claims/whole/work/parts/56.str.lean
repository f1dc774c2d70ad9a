/-! String constants -/
def sln (i : Nat) : Nat := slen.getD i 0
def sls (i : Nat) : List Int := [[97, 119, 120, 121, 122], [116, 110], [121], [103, 112, 116, 115, 110]].getD i []
theorem sls_len {i : Nat} (h : i < 4) : (sls i).length = sln i ∧ 0 < sln i ∧ sln i < 10 := by
  rcases (show i = 0 ∨ i = 1 ∨ i = 2 ∨ i = 3 by omega) with rfl | rfl | rfl | rfl <;> exact ⟨by decide, by decide, by decide⟩
theorem sls_b {i k : Nat} (h : i < 4) (hk : k < sln i) : (sbyt.getD i []).getD k 0 = iI ((sls i).getD k 0) ∧ 0 < (sls i).getD k 0 ∧ (sls i).getD k 0 < 128 := by
  have h1 : ∀ i : Fin 4, ∀ k : Fin 10, (k : Nat) < sln i → ((sbyt.getD (i : Nat) []).getD (k : Nat) 0 = iI ((sls i).getD k 0) ∧ 0 < (sls i).getD k 0 ∧ (sls i).getD k 0 < 128) := by decide
  exact h1 ⟨i, h⟩ ⟨k, by have := (sls_len h).2.2; omega⟩ hk
theorem iByte_v {c : Int} (h0 : 0 ≤ c) (h1 : c ≤ 255) : iByte c = sbt c := by
  have h2 : ∀ n : Fin 256, iByte ((n : Nat) : Int) = sbt ((n : Nat) : Int) := by decide +kernel
  have := h2 ⟨c.toNat, by omega⟩
  rwa [show ((c.toNat : Nat) : Int) = c by omega] at this
theorem chr_v {c : Int} (h0 : 0 ≤ c) (h1 : c ≤ 255) : iChar (iAnd c 255) = c ∧ iChar c = c := by
  have h2 : ∀ n : Fin 256, iChar (iAnd ((n : Nat) : Int) 255) = ((n : Nat) : Int) ∧ iChar ((n : Nat) : Int) = ((n : Nat) : Int) := by decide +kernel
  have := h2 ⟨c.toNat, by omega⟩
  rwa [show ((c.toNat : Nat) : Int) = c by omega] at this
section Str
variable {X : Cx} {M M2 : Mt} {R : Room} {cn sn d pc : Nat} {Qf : State → Array Value → List Frame → State → Prop} {lv : List (Nat × Value)} {st : List Value} {h : Hp} {Post : Option Value → Hp → Prop}
theorem wp_gst {idx : Nat} (z : String × Nat) (hd : decode M.2.1 pc = .ok (.getstatic idx, 3)) (hw : Cond.fieldLink M.1.cls idx RX4 z.1 "[I" ∈ wsG) (hz : z ∈ stL) (k : WG X M R cn sn Qf (pc + 3) lv (.ref (adr X z.2) :: st) h) : WG X M R cn sn Qf pc lv st h := by
  intro p e s m args below meth c H locs ls hC hP hS hl
  exact va_gets hC.1 hC.2.1 (hC.2.2.2.2.2.2.2.2.1.2.1 z hz) hS hC.2.2.2.2.1 (hC.2.2.2.2.2.1 _ (wsM_G hw)) (fun _ h9 => h9) hd (k p e s m args below meth c H locs _ hC hP hS hl)
theorem wp_gcs {idx : Nat} (hd : decode M.2.1 pc = .ok (.getstatic idx, 3)) (hw : Cond.fieldLink M.1.cls idx "java/lang/String" "COMPACT_STRINGS" "Z" ∈ wsG) (k : WG X M R cn sn Qf (pc + 3) lv (.int (iI 1) :: st) h) : WG X M R cn sn Qf pc lv st h := by
  intro p e s m args below meth c H locs ls hC hP hS hl
  exact va_gets hC.1 hC.2.1 hC.2.2.2.2.2.2.2.2.1.2.2.1 hS hC.2.2.2.2.1 (hC.2.2.2.2.2.1 _ (wsM_G hw)) (fun _ h9 => h9) hd (k p e s m args below meth c H locs _ hC hP hS hl)
theorem wp_gfm {idx : Nat} (hd : decode M.2.1 pc = .ok (.getstatic idx, 3)) (hw : Cond.fieldLink M.1.cls idx "jdk/internal/util/Preconditions" "SIOOBE_FORMATTER" "Ljava/util/function/BiFunction;" ∈ wsG) (k : ∀ v : Value, v.category = 1 → lg_sl [v] = [.val v] → WG X M R cn sn Qf (pc + 3) lv (v :: st) h) : WG X M R cn sn Qf pc lv st h := by
  intro p e s m args below meth c H locs ls hC hP hS hl
  rcases hC.2.2.2.2.2.2.2.2.1.2.2.2.2.2.2.2.1 with hz | ⟨q, hz⟩
  · exact va_gets hC.1 hC.2.1 hz hS hC.2.2.2.2.1 (hC.2.2.2.2.2.1 _ (wsM_G hw)) (fun _ h9 => h9) hd (k _ rfl rfl p e s m args below meth c H locs _ hC hP hS hl)
  · exact va_gets hC.1 hC.2.1 hz hS hC.2.2.2.2.1 (hC.2.2.2.2.2.1 _ (wsM_G hw)) (fun _ h9 => h9) hd (k _ rfl rfl p e s m args below meth c H locs _ hC hP hS hl)
theorem wp_ldcS {idx : Nat} (z : String × Nat × String × Nat) (hd : decode M.2.1 pc = .ok (.ldc idx, 2)) (hz : z ∈ srL) (h1 : z.1 = M.1.cls) (h2 : z.2.1 = idx) (k : WG X M R cn sn Qf (pc + 2) lv (.ref (adr X z.2.2.2) :: st) h) : WG X M R cn sn Qf pc lv st h := by
  intro p e s m args below meth c H locs ls hC hP hS hl
  have hR := hC.2.2.2.2.2.2.2.2.1.2.2.2.2.1 z hz
  rw [h1, h2] at hR
  exact va_ldcS hC.1 hC.2.1 hC.2.2.2.2.1 hR hd (k p e s m args below meth c H locs _ hC hP hS hl)
theorem wp_svl {i : Nat} (hi : i < 4) (hd : decode M.2.1 pc = .ok (.getfield 9, 3)) (hM : M.1.cls = RJ0) (k : WG X M R cn sn Qf (pc + 3) lv (.ref (adr X (120 + i)) :: st) h) : WG X M R cn sn Qf pc lv (.ref (adr X (110 + i)) :: st) h := by
  intro p e s m args below meth c H locs ls hC hP hS hl
  exact vk_getf (own := M.1.cls) (ref := "java/lang/String") hC.1 hC.2.1 (hC.2.2.2.2.2.2.2.2.1.2.2.2.1.1 i hi).2.2.1 hS hC.2.2.2.2.1 (hC.2.2.2.2.2.1 _ (wsM_G (by rw [hM]; exact inL 1685 (by decide +kernel) rfl))) (fun _ h9 => h9) hd (k p e s m args below meth c H locs _ hC hP hS hl)
theorem wp_sco {i : Nat} (hi : i < 4) (hd : decode M.2.1 pc = .ok (.getfield 15, 3)) (hM : M.1.cls = RJ0) (k : WG X M R cn sn Qf (pc + 3) lv (.int (iI 0) :: st) h) : WG X M R cn sn Qf pc lv (.ref (adr X (110 + i)) :: st) h := by
  intro p e s m args below meth c H locs ls hC hP hS hl
  exact vk_getf (own := M.1.cls) (ref := "java/lang/String") hC.1 hC.2.1 (hC.2.2.2.2.2.2.2.2.1.2.2.2.1.1 i hi).2.1 hS hC.2.2.2.2.1 (hC.2.2.2.2.2.1 _ (wsM_G (by rw [hM]; exact inL 1686 (by decide +kernel) rfl))) (fun _ h9 => h9) hd (k p e s m args below meth c H locs _ hC hP hS hl)
theorem wp_sbl {i : Nat} {j : Int} (hi : i < 4) (hd : decode M.2.1 pc = .ok (.baload, 1)) (h0 : 0 ≤ j) (h1 : j < sln i) (k : WG X M R cn sn Qf (pc + 1) lv (.int (iI ((sls i).getD j.toNat 0)) :: st) h) : WG X M R cn sn Qf pc lv (.int (iI j) :: .ref (adr X (120 + i)) :: st) h := by
  intro p e s m args below meth c H locs ls hC hP hS hl
  have hn := (sls_len hi).2.2
  obtain ⟨c1, c2⟩ := iI_clamp h0 h1 (by omega)
  refine va_tb hC.1 hC.2.1 (hC.2.2.2.2.2.2.2.2.1.2.2.2.1.1 i hi).2.2.2 hS c1 (v := .int (iI ((sls i).getD j.toNat 0))) ?_ hd (k p e s m args below meth c H locs _ hC hP hS hl)
  rw [c2]
  exact congrArg Value.int (sls_b hi (by omega)).1
theorem wp_sle {i : Nat} (hi : i < 4) (hd : decode M.2.1 pc = .ok (.arraylength, 1)) (k : WG X M R cn sn Qf (pc + 1) lv (.int (iI (sln i)) :: st) h) : WG X M R cn sn Qf pc lv (.ref (adr X (120 + i)) :: st) h := by
  intro p e s m args below meth c H locs ls hC hP hS hl
  exact va_tlen hC.1 hC.2.1 (hC.2.2.2.2.2.2.2.2.1.2.2.2.1.1 i hi).2.2.2 hS (ofNat_iI (sln i)) hd (k p e s m args below meth c H locs _ hC hP hS hl)
theorem wp_callX {idx i n d2 : Nat} {av rest : List Value} {v : Value} (hi : i < 4) (hd : decode M.2.1 pc = .ok (.invokevirtual idx, 3)) (hw : Cond.methodLink M.1.cls idx M2.1 ∈ wsG) (hm : MV M2 n) (hsp : Spec X M2 d2 (.ref (adr X (110 + i)) :: av) h (fun r h' => r = some v ∧ h' = h)) (hst : st = av.reverse ++ .ref (adr X (110 + i)) :: rest) (hn : av.length = n) (hdp : d2 < d) (hml : M2.2.2.1 ≤ 40) (hqc : "java/lang/String" = M2.1.cls) (hrm : (rest.map fun v => v.category).sum ≤ 8) (k : WP X M d (pc + 3) lv (v :: rest) h Post) : WP X M d pc lv st h Post := by
  intro p e s m args below meth c H locs ls hC hP hS hl
  obtain ⟨w1, w2, w3, w4, w5⟩ := hm
  have hts := hC.2.2.2.2.2.1
  have hrecv := vk_recv hC.2.2.2.2.2.2.2.2.1.2.2.2.1 hi hS
  rw [hqc] at hrecv
  exact wp_run hC hS hl (va_runV (C := M2.1.cls) (b := adr X (110 + i)) ⟨hC.1, hC.2.1, hC.2.2.2.1, hC.2.2.2.2.1, hts⟩ (hsp H.size) ⟨callB_of n hts (goodM w4) rfl rfl rfl (hts _ (wsM_G w3)) (hts _ (wsM_G hw)) w5 (rm_ok hdp hml), hts _ (wsM_G w1), hts _ (wsM_G w2)⟩ ⟨pw_blind, hrecv, fun U hU hW => pw_at hC hP hS U hU hW⟩ rfl hn hl.1 hst (lv_room hrm) hd ⟨Nat.zero_le _, Nat.zero_le _⟩) (fun r h' q => by obtain ⟨rfl, rfl⟩ := q; exact k)
theorem wp_nret {a : Int} {ty : FieldType} (hd : decode M.2.1 pc = .ok (.ireturn, 1)) (hr : M.2.2.2 = some ty) (hz : narrow ty (.int (iI a)) = .int (iI a)) (hq : Post (some (.int (iI a))) h) : WP X M d pc lv [.int (iI a)] h Post := by
  intro p e s m args below meth c H locs ls hC hP hS hl
  exact W.zret hC.1 hC.2.1 (hC.2.2.1.trans hr) hz (fun t ht _ => ⟨⟨_, h, rfl, hq, by rw [ht]; exact hP⟩, hS.F ht⟩) hS.2.2 hd hC.2.2.2.2.2.2.1
end Str
theorem narC {c : Int} (h0 : 0 ≤ c) (h1 : c ≤ 255) : narrow .char (.int (iI c)) = .int (iI c) := by
  have h2 : ∀ n : Fin 256, narrow .char (.int (iI ((n : Nat) : Int))) = .int (iI ((n : Nat) : Int)) := by decide +kernel
  have := h2 ⟨c.toNat, by omega⟩
  rwa [show ((c.toNat : Nat) : Int) = c by omega] at this
theorem fcs : Cond.fieldLink RJ0 38 "java/lang/String" "COMPACT_STRINGS" "Z" ∈ wsG := inL 441 (by decide +kernel) rfl
theorem ffm : Cond.fieldLink RJ0 1053 "jdk/internal/util/Preconditions" "SIOOBE_FORMATTER" "Ljava/util/function/BiFunction;" ∈ wsG := inL 489 (by decide +kernel) rfl

set_option maxRecDepth 20000 in
theorem S_J0_coder_7d493 {X : Cx} {h : Hp} {i : Nat} (hi : i < 4) : Spec X mJ0_coder_7d493 0 [.ref (adr X (110 + i))] h (fun rv h' => rv = some (.int (iI 0)) ∧ h' = h) := by
  refine spec_wpF (Nat.le_of_ble_eq_true rfl) (by decide +kernel) ?_
  refine wp_loc [(0, .ref (adr X (110 + i)))] ⟨rfl, trivial⟩ ?_
  refine wp_gcs dJ0_coder_7d493_0 fcs ?_
  refine wp_ifeq 13 dJ0_coder_7d493_3 (by decide) (by unfold InR; omega) (fun c3 => ?_) (fun c3 => ?_)
  · exact absurd c3 (by omega)
  · refine wp_aload_n dJ0_coder_7d493_6 rfl ?_
    refine wp_sco hi dJ0_coder_7d493_7 rfl ?_
    refine wp_goto 14 dJ0_coder_7d493_10 (by decide) ?_
    exact wp_nret dJ0_coder_7d493_14 rfl rfl ⟨rfl, rfl⟩

set_option maxRecDepth 20000 in
theorem S_J0_isLatin1_aae02 {X : Cx} {h : Hp} {i : Nat} (hi : i < 4) : Spec X mJ0_isLatin1_aae02 0 [.ref (adr X (110 + i))] h (fun rv h' => rv = some (.int (iI 1)) ∧ h' = h) := by
  refine spec_wpF (Nat.le_of_ble_eq_true rfl) (by decide +kernel) ?_
  refine wp_loc [(0, .ref (adr X (110 + i)))] ⟨rfl, trivial⟩ ?_
  refine wp_gcs dJ0_isLatin1_aae02_0 fcs ?_
  refine wp_ifeq 17 dJ0_isLatin1_aae02_3 (by decide) (by unfold InR; omega) (fun c3 => ?_) (fun c3 => ?_)
  · exact absurd c3 (by omega)
  · refine wp_aload_n dJ0_isLatin1_aae02_6 rfl ?_
    refine wp_sco hi dJ0_isLatin1_aae02_7 rfl ?_
    refine wp_ifne 17 dJ0_isLatin1_aae02_10 (by decide) (by unfold InR; omega) (fun c10 => ?_) (fun c10 => ?_)
    · exact absurd c10 (by omega)
    · refine wp_iconst dJ0_isLatin1_aae02_13 ?_
      refine wp_goto 18 dJ0_isLatin1_aae02_14 (by decide) ?_
      exact wp_zret dJ0_isLatin1_aae02_18 rfl (by omega) (⟨rfl, rfl⟩)

theorem sln_shr {i : Nat} (hi : i < 4) : iShr (sln i) 0 = sln i := by
  rcases (show i = 0 ∨ i = 1 ∨ i = 2 ∨ i = 3 by omega) with rfl | rfl | rfl | rfl <;> decide

set_option maxRecDepth 20000 in
theorem S_J0_length_8abf5 {X : Cx} {h : Hp} {i : Nat} (hi : i < 4) : Spec X mJ0_length_8abf5 1 [.ref (adr X (110 + i))] h (fun rv h' => rv = some (.int (iI (sln i))) ∧ h' = h) := by
  refine spec_wpF (Nat.le_of_ble_eq_true rfl) (by decide +kernel) ?_
  refine wp_loc [(0, .ref (adr X (110 + i)))] ⟨rfl, trivial⟩ ?_
  refine wp_aload_n dJ0_length_8abf5_0 rfl ?_
  refine wp_svl hi dJ0_length_8abf5_1 rfl ?_
  refine wp_sle hi dJ0_length_8abf5_4 ?_
  refine wp_aload_n dJ0_length_8abf5_5 rfl ?_
  refine wp_callX hi dJ0_length_8abf5_6 mlJ0_335 mvJ0_coder_7d493 (S_J0_coder_7d493 hi) rfl rfl (by decide) (by decide) rfl (Nat.le_of_ble_eq_true rfl) ?_
  refine wp_ishr dJ0_length_8abf5_9 ?_
  rw [sln_shr hi]
  exact wp_iret dJ0_length_8abf5_10 rfl (⟨rfl, rfl⟩)

set_option maxRecDepth 20000 in
theorem S_J1_canEncode_9a6ad {X : Cx} {h : Hp} {c : Int} (hc : InR c) : Spec X mJ1_canEncode_9a6ad 0 [.int (iI c)] h (fun rv h' => rv = some (.int (iI (b2i (0 ≤ c ∧ c ≤ 255)))) ∧ h' = h) := by
  refine spec_wpF (Nat.le_of_ble_eq_true rfl) (by decide +kernel) ?_
  refine wp_loc [(0, .int (iI c))] ⟨rfl, trivial⟩ ?_
  refine wp_iload_n dJ1_canEncode_9a6ad_0 rfl ?_
  refine wp_iflt 15 dJ1_canEncode_9a6ad_1 (by decide) (by first | assumption | (unfold InR; omega)) (fun c1 => ?_) (fun c1 => ?_)
  · refine wp_iconst dJ1_canEncode_9a6ad_15 ?_
    exact wp_zret dJ1_canEncode_9a6ad_16 rfl (by omega) (⟨by first | exact vb1 (by omega) | exact vb0 (by omega), rfl⟩)
  · refine wp_iload_n dJ1_canEncode_9a6ad_4 rfl ?_
    refine wp_sipush dJ1_canEncode_9a6ad_5 rfl ?_
    refine wp_icmpgt 15 dJ1_canEncode_9a6ad_8 (by decide) (by first | assumption | (unfold InR; omega)) (by first | assumption | (unfold InR; omega)) (fun c8 => ?_) (fun c8 => ?_)
    · refine wp_iconst dJ1_canEncode_9a6ad_15 ?_
      exact wp_zret dJ1_canEncode_9a6ad_16 rfl (by omega) (⟨by first | exact vb1 (by omega) | exact vb0 (by omega), rfl⟩)
    · refine wp_iconst dJ1_canEncode_9a6ad_11 ?_
      refine wp_goto 16 dJ1_canEncode_9a6ad_12 (by decide) ?_
      exact wp_zret dJ1_canEncode_9a6ad_16 rfl (by omega) (⟨by first | exact vb1 (by omega) | exact vb0 (by omega), rfl⟩)

set_option maxRecDepth 20000 in
theorem S_J1_indexOfChar_4cfef {X : Cx} {h : Hp} {i : Nat} (hi : i < 4) {c : Int} (hc : 0 ≤ c ∧ c ≤ 255) : Spec X mJ1_indexOfChar_4cfef 0 [.ref (adr X (120 + i)), .int (iI c), .int (iI 0), .int (iI (sln i))] h (fun rv h' => rv = some (.int (iI (ixF c (sls i) 0))) ∧ h' = h) := by
  have sl := sls_len hi
  obtain ⟨V, hV0⟩ : ∃ V : Int, V = ixF c (sls i) 0 := ⟨_, rfl⟩
  rw [← hV0]
  refine spec_wpF (Nat.le_of_ble_eq_true rfl) (by decide +kernel) ?_
  refine wp_loc [(0, .ref (adr X (120 + i))), (1, .int (iI c)), (2, .int (iI 0)), (3, .int (iI (sln i)))] ⟨rfl, rfl, rfl, rfl, trivial⟩ ?_
  have L : ∀ (n : Nat) (k : Nat), (k + n = sln i) → (V = ixF c ((sls i).drop k) k) → WP X mJ1_indexOfChar_4cfef 0 7 [(0, .ref (adr X (120 + i))), (3, .int (iI (sln i))), (4, .int (iI (iByte c))), (5, .int (iI ((k : Nat) : Int)))] [] h (fun rv h' => rv = some (.int (iI V)) ∧ h' = h) := by
    intro n
    induction n with
    | zero =>
      intro k hn hV
      refine wp_iload dJ1_indexOfChar_4cfef_7 rfl ?_
      refine wp_iload_n dJ1_indexOfChar_4cfef_9 rfl ?_
      refine wp_icmpge 31 dJ1_indexOfChar_4cfef_10 (by decide) (by unfold InR; omega) (by unfold InR; omega) (fun c10 => ?_) (fun c10 => ?_)
      · refine wp_iconst dJ1_indexOfChar_4cfef_31 ?_
        exact wp_iret dJ1_indexOfChar_4cfef_32 rfl (⟨vi (by rw [hV, List.drop_of_length_le (by omega)]; rfl), rfl⟩)
      · exact absurd c10 (by omega)
    | succ n ih =>
      intro k hn hV
      have hk : k < (sls i).length := by omega
      have sb := sls_b hi (k := k) (by omega)
      have e : (sls i).getD k 0 = (sls i)[k] := by rw [List.getD_eq_getElem?_getD, List.getElem?_eq_getElem hk]; rfl
      rw [List.drop_eq_getElem_cons hk] at hV
      unfold ixF at hV
      rw [← e] at hV
      have eq1 : (sls i).getD k 0 = iByte c ↔ (sls i).getD k 0 = c := by rw [iByte_v hc.1 hc.2]; unfold sbt; split <;> omega
      have ib : -200 ≤ iByte c ∧ iByte c ≤ 200 := by rw [iByte_v hc.1 hc.2]; unfold sbt; split <;> omega
      refine wp_iload dJ1_indexOfChar_4cfef_7 rfl ?_
      refine wp_iload_n dJ1_indexOfChar_4cfef_9 rfl ?_
      refine wp_icmpge 31 dJ1_indexOfChar_4cfef_10 (by decide) (by unfold InR; omega) (by unfold InR; omega) (fun c10 => ?_) (fun c10 => ?_)
      · exact absurd c10 (by omega)
      · refine wp_aload_n dJ1_indexOfChar_4cfef_13 rfl ?_
        refine wp_iload dJ1_indexOfChar_4cfef_14 rfl ?_
        refine wp_sbl hi dJ1_indexOfChar_4cfef_16 (by omega) (by omega) ?_
        rw [show ((k : Nat) : Int).toNat = k by omega]
        refine wp_iload dJ1_indexOfChar_4cfef_17 rfl ?_
        refine wp_icmpne 25 dJ1_indexOfChar_4cfef_19 (by decide) (by unfold InR; omega) (by unfold InR; omega) (fun c19 => ?_) (fun c19 => ?_)
        · refine wp_iinc dJ1_indexOfChar_4cfef_25 rfl (by decide) ?_
          refine wp_goto 7 dJ1_indexOfChar_4cfef_28 (by decide) ?_
          rw [if_neg (fun q => c19 (eq1.mpr q))] at hV
          refine wp_loc [(0, .ref (adr X (120 + i))), (3, .int (iI (sln i))), (4, .int (iI (iByte c))), (5, .int (iI ((k + 1 : Nat) : Int)))] ⟨rfl, rfl, rfl, rfl, trivial⟩ ?_
          exact ih (k + 1) (by omega) hV
        · refine wp_iload dJ1_indexOfChar_4cfef_22 rfl ?_
          exact wp_iret dJ1_indexOfChar_4cfef_24 rfl (⟨vi (by rw [hV, if_pos (eq1.mp c19)]), rfl⟩)
  refine wp_iload_n dJ1_indexOfChar_4cfef_0 rfl ?_
  refine wp_i2b dJ1_indexOfChar_4cfef_1 ?_
  refine wp_istore dJ1_indexOfChar_4cfef_2 (by decide) ?_
  refine wp_iload_n dJ1_indexOfChar_4cfef_4 rfl ?_
  refine wp_istore dJ1_indexOfChar_4cfef_5 (by decide) ?_
  refine wp_loc [(0, .ref (adr X (120 + i))), (3, .int (iI (sln i))), (4, .int (iI (iByte c))), (5, .int (iI ((0 : Nat) : Int)))] ⟨rfl, rfl, rfl, rfl, trivial⟩ ?_
  exact L (sln i) 0 (by omega) hV0

set_option maxRecDepth 20000 in
theorem S_J1_indexOf_4cfef {X : Cx} {h : Hp} {i : Nat} (hi : i < 4) {c : Int} (hc : 0 ≤ c ∧ c ≤ 255) : Spec X mJ1_indexOf_4cfef 1 [.ref (adr X (120 + i)), .int (iI c), .int (iI 0), .int (iI (sln i))] h (fun rv h' => rv = some (.int (iI (ixF c (sls i) 0))) ∧ h' = h) := by
  have sl := sls_len hi
  refine spec_wpF (Nat.le_of_ble_eq_true rfl) (by decide +kernel) ?_
  refine wp_loc [(0, .ref (adr X (120 + i))), (1, .int (iI c)), (2, .int (iI 0)), (3, .int (iI (sln i)))] ⟨rfl, rfl, rfl, rfl, trivial⟩ ?_
  refine wp_iload_n dJ1_indexOf_4cfef_0 rfl ?_
  refine wp_callSp dJ1_indexOf_4cfef_1 mlJ1_88 msJ1_canEncode_9a6ad (S_J1_canEncode_9a6ad (by unfold InR; omega)) rfl rfl (by decide) (by decide) (Nat.le_of_ble_eq_true rfl) ?_
  refine wp_ifneb 9 dJ1_indexOf_4cfef_4 (by decide) (fun c4 => ?_) (fun c4 => ?_)
  · refine wp_iload_n dJ1_indexOf_4cfef_9 rfl ?_
    refine wp_iconst dJ1_indexOf_4cfef_10 ?_
    refine wp_callSp dJ1_indexOf_4cfef_11 mlJ1_92 msJ9_max_7cf53 (S_J9_max_7cf53 (by unfold InR; omega) (by unfold InR; omega)) rfl rfl (by decide) (by decide) (Nat.le_of_ble_eq_true rfl) ?_
    rw [show max (0 : Int) 0 = 0 by omega]
    refine wp_istore_n dJ1_indexOf_4cfef_14 (by decide) ?_
    refine wp_iload_n dJ1_indexOf_4cfef_15 rfl ?_
    refine wp_aload_n dJ1_indexOf_4cfef_16 rfl ?_
    refine wp_sle hi dJ1_indexOf_4cfef_17 ?_
    refine wp_callSp dJ1_indexOf_4cfef_18 mlJ1_38 msJ9_min_7cf53 (S_J9_min_7cf53 (by unfold InR; omega) (by unfold InR; omega)) rfl rfl (by decide) (by decide) (Nat.le_of_ble_eq_true rfl) ?_
    rw [show min ((sln i : Nat) : Int) ((sln i : Nat) : Int) = sln i by omega]
    refine wp_istore_n dJ1_indexOf_4cfef_21 (by decide) ?_
    refine wp_iload_n dJ1_indexOf_4cfef_22 rfl ?_
    refine wp_iload_n dJ1_indexOf_4cfef_23 rfl ?_
    refine wp_icmplt 29 dJ1_indexOf_4cfef_24 (by decide) (by unfold InR; omega) (by unfold InR; omega) (fun c24 => ?_) (fun c24 => ?_)
    · refine wp_aload_n dJ1_indexOf_4cfef_29 rfl ?_
      refine wp_iload_n dJ1_indexOf_4cfef_30 rfl ?_
      refine wp_iload_n dJ1_indexOf_4cfef_31 rfl ?_
      refine wp_iload_n dJ1_indexOf_4cfef_32 rfl ?_
      refine wp_callSp dJ1_indexOf_4cfef_33 mlJ1_95 msJ1_indexOfChar_4cfef (S_J1_indexOfChar_4cfef hi hc) rfl rfl (by decide) (by decide) (Nat.le_of_ble_eq_true rfl) ?_
      exact wp_iret dJ1_indexOf_4cfef_36 rfl (⟨rfl, rfl⟩)
    · exact absurd c24 (by omega)
  · exact absurd hc c4

set_option maxRecDepth 20000 in
theorem S_J0_indexOf_7cf53 {X : Cx} {h : Hp} {i : Nat} (hi : i < 4) {c : Int} (hc : 0 ≤ c ∧ c ≤ 255) : Spec X mJ0_indexOf_7cf53 2 [.ref (adr X (110 + i)), .int (iI c), .int (iI 0)] h (fun rv h' => rv = some (.int (iI (ixF c (sls i) 0))) ∧ h' = h) := by
  have sl := sls_len hi
  refine spec_wpF (Nat.le_of_ble_eq_true rfl) (by decide +kernel) ?_
  refine wp_loc [(0, .ref (adr X (110 + i))), (1, .int (iI c)), (2, .int (iI 0))] ⟨rfl, rfl, rfl, trivial⟩ ?_
  refine wp_aload_n dJ0_indexOf_7cf53_0 rfl ?_
  refine wp_callX hi dJ0_indexOf_7cf53_1 mlJ0_492 mvJ0_isLatin1_aae02 (S_J0_isLatin1_aae02 hi) rfl rfl (by decide) (by decide) rfl (Nat.le_of_ble_eq_true rfl) ?_
  refine wp_ifeq 23 dJ0_indexOf_7cf53_4 (by decide) (by unfold InR; omega) (fun c4 => ?_) (fun c4 => ?_)
  · exact absurd c4 (by omega)
  · refine wp_aload_n dJ0_indexOf_7cf53_7 rfl ?_
    refine wp_svl hi dJ0_indexOf_7cf53_8 rfl ?_
    refine wp_iload_n dJ0_indexOf_7cf53_11 rfl ?_
    refine wp_iload_n dJ0_indexOf_7cf53_12 rfl ?_
    refine wp_aload_n dJ0_indexOf_7cf53_13 rfl ?_
    refine wp_callX hi dJ0_indexOf_7cf53_14 mlJ0_505 mvJ0_length_8abf5 (S_J0_length_8abf5 hi) rfl rfl (by decide) (by decide) rfl (Nat.le_of_ble_eq_true rfl) ?_
    refine wp_callSp dJ0_indexOf_7cf53_17 mlJ0_637 msJ1_indexOf_4cfef (S_J1_indexOf_4cfef hi hc) rfl rfl (by decide) (by decide) (Nat.le_of_ble_eq_true rfl) ?_
    refine wp_goto 36 dJ0_indexOf_7cf53_20 (by decide) ?_
    exact wp_iret dJ0_indexOf_7cf53_36 rfl (⟨rfl, rfl⟩)

set_option maxRecDepth 20000 in
theorem S_J0_indexOf_0f7a4 {X : Cx} {h : Hp} {i : Nat} (hi : i < 4) {c : Int} (hc : 0 ≤ c ∧ c ≤ 255) : Spec X mJ0_indexOf_0f7a4 3 [.ref (adr X (110 + i)), .int (iI c)] h (fun rv h' => rv = some (.int (iI (ixF c (sls i) 0))) ∧ h' = h) := by
  refine spec_wpF (Nat.le_of_ble_eq_true rfl) (by decide +kernel) ?_
  refine wp_loc [(0, .ref (adr X (110 + i))), (1, .int (iI c))] ⟨rfl, rfl, trivial⟩ ?_
  refine wp_aload_n dJ0_indexOf_0f7a4_0 rfl ?_
  refine wp_iload_n dJ0_indexOf_0f7a4_1 rfl ?_
  refine wp_iconst dJ0_indexOf_0f7a4_2 ?_
  refine wp_callX hi dJ0_indexOf_0f7a4_3 mlJ0_633 mvJ0_indexOf_7cf53 (S_J0_indexOf_7cf53 hi hc) rfl rfl (by decide) (by decide) rfl (Nat.le_of_ble_eq_true rfl) ?_
  exact wp_iret dJ0_indexOf_0f7a4_6 rfl (⟨rfl, rfl⟩)

set_option maxRecDepth 20000 in
theorem S_J3_checkIndex_8e157 {X : Cx} {h : Hp} {k n : Int} {v : Value} (hv : lg_sl [v] = [.val v]) (hk : 0 ≤ k ∧ k < n) (hn : n < 1000) : Spec X mJ3_checkIndex_8e157 0 [.int (iI k), .int (iI n), v] h (fun rv h' => rv = some (.int (iI k)) ∧ h' = h) := by
  refine spec_wpF (by rw [show (lg_sl [Value.int (iI k), .int (iI n), v]) = .val (.int (iI k)) :: .val (.int (iI n)) :: lg_sl [v] from rfl, hv]; exact Nat.le_of_ble_eq_true rfl) (by decide +kernel) ?_
  refine wp_loc [(0, .int (iI k)), (1, .int (iI n))] ⟨rfl, rfl, trivial⟩ ?_
  refine wp_iload_n dJ3_checkIndex_8e157_0 rfl ?_
  refine wp_iflt 9 dJ3_checkIndex_8e157_1 (by decide) (by unfold InR; omega) (fun c1 => ?_) (fun c1 => ?_)
  · exact absurd c1 (by omega)
  · refine wp_iload_n dJ3_checkIndex_8e157_4 rfl ?_
    refine wp_iload_n dJ3_checkIndex_8e157_5 rfl ?_
    refine wp_icmplt 16 dJ3_checkIndex_8e157_6 (by decide) (by unfold InR; omega) (by unfold InR; omega) (fun c6 => ?_) (fun c6 => ?_)
    · refine wp_iload_n dJ3_checkIndex_8e157_16 rfl ?_
      exact wp_iret dJ3_checkIndex_8e157_17 rfl (⟨rfl, rfl⟩)
    · exact absurd c6 (by omega)

set_option maxRecDepth 20000 in
theorem S_J0_checkIndex_df160 {X : Cx} {h : Hp} {k n : Int} (hk : 0 ≤ k ∧ k < n) (hn : n < 1000) : Spec X mJ0_checkIndex_df160 1 [.int (iI k), .int (iI n)] h (fun rv h' => rv = none ∧ h' = h) := by
  refine spec_wpF (Nat.le_of_ble_eq_true rfl) (by decide +kernel) ?_
  refine wp_loc [(0, .int (iI k)), (1, .int (iI n))] ⟨rfl, rfl, trivial⟩ ?_
  refine wp_iload_n dJ0_checkIndex_df160_0 rfl ?_
  refine wp_iload_n dJ0_checkIndex_df160_1 rfl ?_
  refine wp_gfm dJ0_checkIndex_df160_2 ffm (fun v hv1 hv2 => ?_)
  refine wp_callSp dJ0_checkIndex_df160_5 mlJ0_1059 msJ3_checkIndex_8e157 (S_J3_checkIndex_8e157 hv2 hk hn) rfl rfl (by decide) (by decide) (Nat.le_of_ble_eq_true rfl) ?_
  refine wp_pop dJ0_checkIndex_df160_8 rfl ?_
  exact wp_ret dJ0_checkIndex_df160_9 rfl (⟨rfl, rfl⟩)

set_option maxRecDepth 20000 in
theorem S_J1_charAt_3b067 {X : Cx} {h : Hp} {i : Nat} (hi : i < 4) {k : Int} (hk : 0 ≤ k ∧ k < sln i) : Spec X mJ1_charAt_3b067 2 [.ref (adr X (120 + i)), .int (iI k)] h (fun rv h' => rv = some (.int (iI ((sls i).getD k.toNat 0))) ∧ h' = h) := by
  have sl := sls_len hi
  have sb := sls_b hi (k := k.toNat) (by omega)
  have ch := chr_v (c := (sls i).getD k.toNat 0) (by omega) (by omega)
  refine spec_wpF (Nat.le_of_ble_eq_true rfl) (by decide +kernel) ?_
  refine wp_loc [(0, .ref (adr X (120 + i))), (1, .int (iI k))] ⟨rfl, rfl, trivial⟩ ?_
  refine wp_iload_n dJ1_charAt_3b067_0 rfl ?_
  refine wp_aload_n dJ1_charAt_3b067_1 rfl ?_
  refine wp_sle hi dJ1_charAt_3b067_2 ?_
  refine wp_callSv dJ1_charAt_3b067_3 mlJ1_9 msJ0_checkIndex_df160 (S_J0_checkIndex_df160 hk (by omega)) rfl rfl (by decide) (by decide) (Nat.le_of_ble_eq_true rfl) ?_
  refine wp_aload_n dJ1_charAt_3b067_6 rfl ?_
  refine wp_iload_n dJ1_charAt_3b067_7 rfl ?_
  refine wp_sbl hi dJ1_charAt_3b067_8 (by omega) (by omega) ?_
  refine wp_sipush dJ1_charAt_3b067_9 rfl ?_
  refine wp_iand dJ1_charAt_3b067_12 ?_
  refine wp_i2c dJ1_charAt_3b067_13 ?_
  rw [ch.1]
  exact wp_nret dJ1_charAt_3b067_14 rfl (narC (by omega) (by omega)) ⟨rfl, rfl⟩

set_option maxRecDepth 20000 in
theorem S_J0_charAt_5068e {X : Cx} {h : Hp} {i : Nat} (hi : i < 4) {k : Int} (hk : 0 ≤ k ∧ k < sln i) : Spec X mJ0_charAt_5068e 3 [.ref (adr X (110 + i)), .int (iI k)] h (fun rv h' => rv = some (.int (iI ((sls i).getD k.toNat 0))) ∧ h' = h) := by
  have sl := sls_len hi
  have sb := sls_b hi (k := k.toNat) (by omega)
  refine spec_wpF (Nat.le_of_ble_eq_true rfl) (by decide +kernel) ?_
  refine wp_loc [(0, .ref (adr X (110 + i))), (1, .int (iI k))] ⟨rfl, rfl, trivial⟩ ?_
  refine wp_aload_n dJ0_charAt_5068e_0 rfl ?_
  refine wp_callX hi dJ0_charAt_5068e_1 mlJ0_492 mvJ0_isLatin1_aae02 (S_J0_isLatin1_aae02 hi) rfl rfl (by decide) (by decide) rfl (Nat.le_of_ble_eq_true rfl) ?_
  refine wp_ifeq 16 dJ0_charAt_5068e_4 (by decide) (by unfold InR; omega) (fun c4 => ?_) (fun c4 => ?_)
  · exact absurd c4 (by omega)
  · refine wp_aload_n dJ0_charAt_5068e_7 rfl ?_
    refine wp_svl hi dJ0_charAt_5068e_8 rfl ?_
    refine wp_iload_n dJ0_charAt_5068e_11 rfl ?_
    refine wp_callSp dJ0_charAt_5068e_12 mlJ0_495 msJ1_charAt_3b067 (S_J1_charAt_3b067 hi hk) rfl rfl (by decide) (by decide) (Nat.le_of_ble_eq_true rfl) ?_
    exact wp_nret dJ0_charAt_5068e_15 rfl (narC (by omega) (by omega)) ⟨rfl, rfl⟩

