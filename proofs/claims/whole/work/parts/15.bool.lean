/-! truths as 0 and 1; answers -/
def b2i (c : Prop) [Decidable c] : Int := if c then 1 else 0
theorem b2i_0 {c : Prop} [Decidable c] : b2i c = 0 ↔ ¬ c := by unfold b2i; split <;> simp_all
theorem b2i_1 {c : Prop} [Decidable c] : b2i c = 1 ↔ c := by unfold b2i; split <;> simp_all
theorem b2i_t {c : Prop} [Decidable c] (h : c) : b2i c = 1 := if_pos h
theorem b2i_f {c : Prop} [Decidable c] (h : ¬ c) : b2i c = 0 := if_neg h
theorem b2i_z {c : Prop} [Decidable c] : b2i c = 0 ∨ b2i c = 1 := by unfold b2i; split <;> simp
theorem b2i_R {c : Prop} [Decidable c] : InR (b2i c) := by unfold b2i InR; split <;> omega
theorem b2i_congr {c d : Prop} [Decidable c] [Decidable d] (h : c ↔ d) : b2i c = b2i d := by unfold b2i; by_cases hc : c <;> simp [hc, h.mp, ← h]
theorem vb1 {c : Prop} [Decidable c] (h : c) : some (Value.int (iI 1)) = some (Value.int (iI (b2i c))) := by rw [b2i_t h]
theorem vb0 {c : Prop} [Decidable c] (h : ¬ c) : some (Value.int (iI 0)) = some (Value.int (iI (b2i c))) := by rw [b2i_f h]
theorem vi {x y : Int} (h : x = y) : some (Value.int (iI x)) = some (Value.int (iI y)) := by rw [h]
section Bool
variable {X : Cx} {M : Mt} {R : Room} {cn sn pc : Nat} {Qf : State → Array Value → List Frame → State → Prop} {lv : List (Nat × Value)} {st : List Value} {h : Hp}
theorem wp_ifeqb {a : Prop} [Decidable a] {off : Int} (tgt : Nat) (hd : decode M.2.1 pc = .ok (.ifCond .eq off, 3)) (ht : (pc : Int) + off = (tgt : Int)) (kt : ¬ a → WG X M R cn sn Qf tgt lv st h) (kf : a → WG X M R cn sn Qf (pc + 3) lv st h) : WG X M R cn sn Qf pc lv (.int (iI (b2i a)) :: st) h :=
  wp_ifeq tgt hd ht b2i_R (fun q => kt (b2i_0.mp q)) (fun q => kf (Classical.byContradiction fun z => q (b2i_0.mpr z)))
theorem wp_ifneb {a : Prop} [Decidable a] {off : Int} (tgt : Nat) (hd : decode M.2.1 pc = .ok (.ifCond .ne off, 3)) (ht : (pc : Int) + off = (tgt : Int)) (kt : a → WG X M R cn sn Qf tgt lv st h) (kf : ¬ a → WG X M R cn sn Qf (pc + 3) lv st h) : WG X M R cn sn Qf pc lv (.int (iI (b2i a)) :: st) h :=
  wp_ifne tgt hd ht b2i_R (fun q => kt (Classical.byContradiction fun z => q (b2i_0.mpr z))) (fun q => kf (b2i_0.mp q))
end Bool
section Div
variable {X : Cx} {M : Mt} {R : Room} {cn sn pc : Nat} {Qf : State → Array Value → List Frame → State → Prop} {lv : List (Nat × Value)} {st : List Value} {h : Hp}
theorem ediv_R {a b : Int} (h0 : 0 ≤ a) (hb : 0 < b) (ha : InR a) : InR (a / b) := by
  have h1 : 0 ≤ a / b := Int.ediv_nonneg h0 (by omega)
  have h2 : a / b ≤ a := Int.ediv_le_self b h0
  unfold InR at *
  omega
theorem wp_idivp {a b : Int} (hd : decode M.2.1 pc = .ok (.idiv, 1)) (h0 : 0 ≤ a) (hb0 : 0 < b) (ha : InR a) (hb : InR b) (k : WG X M R cn sn Qf (pc + 1) lv (.int (iI (a / b)) :: st) h) : WG X M R cn sn Qf pc lv (.int (iI b) :: .int (iI a) :: st) h := by
  have e : a.tdiv b = a / b := Int.tdiv_eq_ediv_of_nonneg h0
  exact wp_idiv hd ha hb (by omega) (by rw [e]; exact ediv_R h0 hb0 ha) (by rw [e]; exact k)
theorem wp_iremp {a b : Int} (hd : decode M.2.1 pc = .ok (.irem, 1)) (h0 : 0 ≤ a) (hb0 : 0 < b) (ha : InR a) (hb : InR b) (k : WG X M R cn sn Qf (pc + 1) lv (.int (iI (a % b)) :: st) h) : WG X M R cn sn Qf pc lv (.int (iI b) :: .int (iI a) :: st) h := by
  have e : a.tdiv b = a / b := Int.tdiv_eq_ediv_of_nonneg h0
  have e2 : a.tmod b = a % b := Int.tmod_eq_emod_of_nonneg h0
  exact wp_irem hd ha hb (by omega) (by rw [e]; exact ediv_R h0 hb0 ha) (by rw [e2]; exact k)
end Div
theorem spec_wpF {X : Cx} {M : Mt} {d : Nat} {av : List Value} {h : Hp} {Post : Option Value → Hp → Prop} (hn : (lg_sl av).length ≤ M.2.2.1) (hp : plainFor M.1 = true) (k : WP X M d 0 (lv_args 0 av) [] h Post) : Spec X M d av h Post := by
  intro sz
  refine va_MetF (cc := M.2.1) (maxL := M.2.2.1) (ret := M.2.2.2) hp rfl ?_
  intro p e s m args below meth c s₁ B hml hv
  obtain ⟨rfl, hsz, hP, hK, hE, hi⟩ := hv
  subst hsz
  have hts := atoms_spec (ws := wsM M) B.pre
  have hown : s.vm.findClass M.1.cls = some m.cls := findClass_of_methodNamed B.named
  rw [lg_entry_eq]
  exact k p e s m _ below meth c s.heap [] _ ⟨B.exec, B.bytes, B.returns, hml, hown, hts, B.notSynchronized, hK, hE, hi⟩ hP va_S.rf (lv_entry av hn)
section Switch
variable {X : Cx} {M : Mt} {R : Room} {cn sn pc : Nat} {Qf : State → Array Value → List Frame → State → Prop} {lv : List (Nat × Value)} {st : List Value} {h : Hp}
theorem wp_tsi {a : Int} {dflt lo hi : Int} {offs : Array Int} {len : Nat} {off : Int} (tgt : Nat) (hd : decode M.2.1 pc = .ok (.tableswitch dflt lo hi offs, len)) (ha : InR a) (h1 : ¬ a < lo) (h2 : ¬ hi < a) (ho : offs[(a - lo).toNat]? = some off) (ht : (pc : Int) + off = (tgt : Int)) (k : WG X M R cn sn Qf tgt lv st h) : WG X M R cn sn Qf pc lv (.int (iI a) :: st) h := by
  intro p e s m args below meth c H locs ls hC hP hS hl
  exact lv_tableIn hC.1 hC.2.1 hd (by rw [iI_toInt ha]; exact h1) (by rw [iI_toInt ha]; exact h2) (by rw [iI_toInt ha]; exact ho) ht (k p e s m args below meth c H locs _ hC hP hS hl)
theorem wp_tso {a : Int} {dflt lo hi : Int} {offs : Array Int} {len : Nat} (tgt : Nat) (hd : decode M.2.1 pc = .ok (.tableswitch dflt lo hi offs, len)) (ha : InR a) (h1 : a < lo ∨ hi < a) (ht : (pc : Int) + dflt = (tgt : Int)) (k : WG X M R cn sn Qf tgt lv st h) : WG X M R cn sn Qf pc lv (.int (iI a) :: st) h := by
  intro p e s m args below meth c H locs ls hC hP hS hl
  exact lv_tableOut hC.1 hC.2.1 hd (by rw [iI_toInt ha]; exact h1) ht (k p e s m args below meth c H locs _ hC hP hS hl)
end Switch
