/-! truths as 0 and 1; answers -/
def b2i (c : Prop) [Decidable c] : Int := if c then 1 else 0
theorem b2i_0 {c : Prop} [Decidable c] : b2i c = 0 ↔ ¬ c := by unfold b2i; split <;> simp_all
theorem b2i_1 {c : Prop} [Decidable c] : b2i c = 1 ↔ c := by unfold b2i; split <;> simp_all
theorem b2i_t {c : Prop} [Decidable c] (h : c) : b2i c = 1 := if_pos h
theorem b2i_f {c : Prop} [Decidable c] (h : ¬ c) : b2i c = 0 := if_neg h
theorem b2i_z {c : Prop} [Decidable c] : b2i c = 0 ∨ b2i c = 1 := by unfold b2i; split <;> simp
theorem b2i_R {c : Prop} [Decidable c] : InR (b2i c) := by unfold b2i InR; split <;> omega
theorem b2i_congr {c d : Prop} [Decidable c] [Decidable d] (h : c ↔ d) : b2i c = b2i d := by unfold b2i; by_cases hc : c <;> simp [hc, h.mp, ← h]
theorem vb1 {c : Prop} [Decidable c] (h : c) : some (Value.int (iI 1)) = some (Value.int (iI (b2i c))) := by rw [b2i_t h]
theorem vb0 {c : Prop} [Decidable c] (h : ¬ c) : some (Value.int (iI 0)) = some (Value.int (iI (b2i c))) := by rw [b2i_f h]
theorem vi {x y : Int} (h : x = y) : some (Value.int (iI x)) = some (Value.int (iI y)) := by rw [h]
section Bool
variable {X : Cx} {M : Mt} {d pc : Nat} {lv : List (Nat × Value)} {st : List Value} {h : Hp} {Post : Option Value → Hp → Prop}
theorem wp_ifeqb {a : Prop} [Decidable a] {off : Int} (tgt : Nat) (hd : decode M.2.1 pc = .ok (.ifCond .eq off, 3)) (ht : (pc : Int) + off = (tgt : Int)) (kt : ¬ a → WP X M d tgt lv st h Post) (kf : a → WP X M d (pc + 3) lv st h Post) : WP X M d pc lv (.int (iI (b2i a)) :: st) h Post :=
  wp_ifeq (b := 0) tgt hd ht b2i_R (fun q => kt (b2i_0.mp q)) (fun q => kf (Classical.byContradiction fun z => q (b2i_0.mpr z)))
theorem wp_ifneb {a : Prop} [Decidable a] {off : Int} (tgt : Nat) (hd : decode M.2.1 pc = .ok (.ifCond .ne off, 3)) (ht : (pc : Int) + off = (tgt : Int)) (kt : a → WP X M d tgt lv st h Post) (kf : ¬ a → WP X M d (pc + 3) lv st h Post) : WP X M d pc lv (.int (iI (b2i a)) :: st) h Post :=
  wp_ifne (b := 0) tgt hd ht b2i_R (fun q => kt (Classical.byContradiction fun z => q (b2i_0.mpr z))) (fun q => kf (b2i_0.mp q))
end Bool
