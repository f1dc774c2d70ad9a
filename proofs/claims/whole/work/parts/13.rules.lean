section Rules
variable {X : Cx} {M M2 : Mt} {R : Room} {cn sn d pc : Nat} {Qf : State → Array Value → List Frame → State → Prop} {lv : List (Nat × Value)} {st : List Value} {h : Hp} {Post : Option Value → Hp → Prop}
theorem wp_iconst {n : Int} (hd : decode M.2.1 pc = .ok (.iconst n, 1)) (k : WG X M R cn sn Qf (pc + 1) lv (.int (iI n) :: st) h) : WG X M R cn sn Qf pc lv st h := by
  intro p e s m args below meth c H locs ls hC hP hS hl
  exact lv_iconst hC.1 hC.2.1 hd rfl (k p e s m args below meth c H locs _ hC hP hS hl)
theorem wp_bipush {n : Int} (hd : decode M.2.1 pc = .ok (.bipush n, 2)) (hv : (Int8.ofInt n).toInt32 = iI n) (k : WG X M R cn sn Qf (pc + 2) lv (.int (iI n) :: st) h) : WG X M R cn sn Qf pc lv st h := by
  intro p e s m args below meth c H locs ls hC hP hS hl
  exact lv_bipush hC.1 hC.2.1 hd hv (k p e s m args below meth c H locs _ hC hP hS hl)
theorem wp_sipush {n : Int} (hd : decode M.2.1 pc = .ok (.sipush n, 3)) (hv : (Int16.ofInt n).toInt32 = iI n) (k : WG X M R cn sn Qf (pc + 3) lv (.int (iI n) :: st) h) : WG X M R cn sn Qf pc lv st h := by
  intro p e s m args below meth c H locs ls hC hP hS hl
  exact lv_sipush hC.1 hC.2.1 hd hv (k p e s m args below meth c H locs _ hC hP hS hl)
theorem wp_lconst {n : Fin 2} {v : Int64} (hd : decode M.2.1 pc = .ok (.lconst n, 1)) (hv : Int64.ofNat (n : Nat) = v) (k : WG X M R cn sn Qf (pc + 1) lv (.long v :: st) h) : WG X M R cn sn Qf pc lv st h := by
  intro p e s m args below meth c H locs ls hC hP hS hl
  exact lv_lconst hC.1 hC.2.1 hd hv (k p e s m args below meth c H locs _ hC hP hS hl)
theorem wp_ldc {n : Nat} {z : Int} (hd : decode M.2.1 pc = .ok (.ldc n, 2)) (hw : Cond.constant M.1.cls n (iI z) ∈ wsG) (k : WG X M R cn sn Qf (pc + 2) lv (.int (iI z) :: st) h) : WG X M R cn sn Qf pc lv st h := by
  intro p e s m args below meth c H locs ls hC hP hS hl
  exact lv_ldc hC.1 hC.2.1 hC.2.2.2.2.1 (hC.2.2.2.2.2.1 _ (wsM_G hw)) hd (k p e s m args below meth c H locs _ hC hP hS hl)
theorem wp_ldcw {n : Nat} {z : Int} (hd : decode M.2.1 pc = .ok (.ldc_w n, 3)) (hw : Cond.constant M.1.cls n (iI z) ∈ wsG) (k : WG X M R cn sn Qf (pc + 3) lv (.int (iI z) :: st) h) : WG X M R cn sn Qf pc lv st h := by
  intro p e s m args below meth c H locs ls hC hP hS hl
  exact lv_ldcw hC.1 hC.2.1 hC.2.2.2.2.1 (hC.2.2.2.2.2.1 _ (wsM_G hw)) hd (k p e s m args below meth c H locs _ hC hP hS hl)
theorem wp_ldc2 {n : Nat} {v : Int64} (hd : decode M.2.1 pc = .ok (.ldc2_w n, 3)) (hw : Cond.constantLong M.1.cls n v ∈ wsG) (k : WG X M R cn sn Qf (pc + 3) lv (.long v :: st) h) : WG X M R cn sn Qf pc lv st h := by
  intro p e s m args below meth c H locs ls hC hP hS hl
  exact lv_ldc2 hC.1 hC.2.1 hC.2.2.2.2.1 (hC.2.2.2.2.2.1 _ (wsM_G hw)) hd (k p e s m args below meth c H locs _ hC hP hS hl)
theorem wp_iload_n {n : Fin 4} {a : Int} (hd : decode M.2.1 pc = .ok (.iload_n n, 1)) (hg : lvGet lv n = some (.int (iI a))) (k : WG X M R cn sn Qf (pc + 1) lv (.int (iI a) :: st) h) : WG X M R cn sn Qf pc lv st h := by
  intro p e s m args below meth c H locs ls hC hP hS hl
  exact lv_iload_n hC.1 hC.2.1 hd rfl (lvGet_at hl hg) (k p e s m args below meth c H locs _ hC hP hS hl)
theorem wp_iload {n : Nat} {a : Int} (hd : decode M.2.1 pc = .ok (.iload n, 2)) (hg : lvGet lv n = some (.int (iI a))) (k : WG X M R cn sn Qf (pc + 2) lv (.int (iI a) :: st) h) : WG X M R cn sn Qf pc lv st h := by
  intro p e s m args below meth c H locs ls hC hP hS hl
  exact lv_iload hC.1 hC.2.1 hd (lvGet_at hl hg) (k p e s m args below meth c H locs _ hC hP hS hl)
theorem wp_istore_n {n : Fin 4} {a : Int} (hd : decode M.2.1 pc = .ok (.istore_n n, 1)) (hn : (n : Nat) < M.2.2.1) (k : WG X M R cn sn Qf (pc + 1) (lvS lv n (.int (iI a))) st h) : WG X M R cn sn Qf pc lv (.int (iI a) :: st) h := by
  intro p e s m args below meth c H locs ls hC hP hS hl
  exact lv_istore_n hC.1 hC.2.1 hd rfl hl hn rfl (fun ls hl => k p e s m args below meth c H locs _ hC hP hS hl)
theorem wp_istore {n : Nat} {a : Int} (hd : decode M.2.1 pc = .ok (.istore n, 2)) (hn : n < M.2.2.1) (k : WG X M R cn sn Qf (pc + 2) (lvS lv n (.int (iI a))) st h) : WG X M R cn sn Qf pc lv (.int (iI a) :: st) h := by
  intro p e s m args below meth c H locs ls hC hP hS hl
  exact lv_istore hC.1 hC.2.1 hd hl hn rfl (fun ls hl => k p e s m args below meth c H locs _ hC hP hS hl)
theorem wp_lload_n {n : Fin 4} {x : Int64} (hd : decode M.2.1 pc = .ok (.lload_n n, 1)) (hg : lvGet lv n = some (.long x)) (k : WG X M R cn sn Qf (pc + 1) lv (.long x :: st) h) : WG X M R cn sn Qf pc lv st h := by
  intro p e s m args below meth c H locs ls hC hP hS hl
  exact lv_lload_n hC.1 hC.2.1 hd rfl (lvGet_at hl hg) (k p e s m args below meth c H locs _ hC hP hS hl)
theorem wp_lload {n : Nat} {x : Int64} (hd : decode M.2.1 pc = .ok (.lload n, 2)) (hg : lvGet lv n = some (.long x)) (k : WG X M R cn sn Qf (pc + 2) lv (.long x :: st) h) : WG X M R cn sn Qf pc lv st h := by
  intro p e s m args below meth c H locs ls hC hP hS hl
  exact lv_lload hC.1 hC.2.1 hd (lvGet_at hl hg) (k p e s m args below meth c H locs _ hC hP hS hl)
theorem wp_lstore_n {n : Fin 4} {x : Int64} (hd : decode M.2.1 pc = .ok (.lstore_n n, 1)) (hn : (n : Nat) + 1 < M.2.2.1) (k : WG X M R cn sn Qf (pc + 1) (lvS2 lv n (.long x)) st h) : WG X M R cn sn Qf pc lv (.long x :: st) h := by
  intro p e s m args below meth c H locs ls hC hP hS hl
  exact lv_lstore_n hC.1 hC.2.1 hd rfl hl hn rfl (fun ls hl => k p e s m args below meth c H locs _ hC hP hS hl)
theorem wp_lstore {n : Nat} {x : Int64} (hd : decode M.2.1 pc = .ok (.lstore n, 2)) (hn : n + 1 < M.2.2.1) (k : WG X M R cn sn Qf (pc + 2) (lvS2 lv n (.long x)) st h) : WG X M R cn sn Qf pc lv (.long x :: st) h := by
  intro p e s m args below meth c H locs ls hC hP hS hl
  exact lv_lstore hC.1 hC.2.1 hd hl hn rfl (fun ls hl => k p e s m args below meth c H locs _ hC hP hS hl)
theorem wp_aload_n {n : Fin 4} {r : Nat} (hd : decode M.2.1 pc = .ok (.aload_n n, 1)) (hg : lvGet lv n = some (.ref r)) (k : WG X M R cn sn Qf (pc + 1) lv (.ref r :: st) h) : WG X M R cn sn Qf pc lv st h := by
  intro p e s m args below meth c H locs ls hC hP hS hl
  exact lv_aload_n hC.1 hC.2.1 hd rfl (lvGet_at hl hg) (k p e s m args below meth c H locs _ hC hP hS hl)
theorem wp_aload {n : Nat} {r : Nat} (hd : decode M.2.1 pc = .ok (.aload n, 2)) (hg : lvGet lv n = some (.ref r)) (k : WG X M R cn sn Qf (pc + 2) lv (.ref r :: st) h) : WG X M R cn sn Qf pc lv st h := by
  intro p e s m args below meth c H locs ls hC hP hS hl
  exact lv_aload hC.1 hC.2.1 hd (lvGet_at hl hg) (k p e s m args below meth c H locs _ hC hP hS hl)
theorem wp_astore_n {n : Fin 4} {r : Nat} (hd : decode M.2.1 pc = .ok (.astore_n n, 1)) (hn : (n : Nat) < M.2.2.1) (k : WG X M R cn sn Qf (pc + 1) (lvS lv n (.ref r)) st h) : WG X M R cn sn Qf pc lv (.ref r :: st) h := by
  intro p e s m args below meth c H locs ls hC hP hS hl
  exact lv_astore_n hC.1 hC.2.1 hd rfl hl hn rfl (fun ls hl => k p e s m args below meth c H locs _ hC hP hS hl)
theorem wp_astore {n : Nat} {r : Nat} (hd : decode M.2.1 pc = .ok (.astore n, 2)) (hn : n < M.2.2.1) (k : WG X M R cn sn Qf (pc + 2) (lvS lv n (.ref r)) st h) : WG X M R cn sn Qf pc lv (.ref r :: st) h := by
  intro p e s m args below meth c H locs ls hC hP hS hl
  exact lv_astore hC.1 hC.2.1 hd hl hn rfl (fun ls hl => k p e s m args below meth c H locs _ hC hP hS hl)
theorem wp_iinc {i : Nat} {n a : Int} (hd : decode M.2.1 pc = .ok (.iinc i n, 3)) (hg : lvGet lv i = some (.int (iI a))) (hn : i < M.2.2.1) (k : WG X M R cn sn Qf (pc + 3) (lvS lv i (.int (iI (a + n)))) st h) : WG X M R cn sn Qf pc lv st h := by
  intro p e s m args below meth c H locs ls hC hP hS hl
  obtain ⟨j, hj⟩ := List.getElem?_of_mem (lvGet_mem hg)
  exact lv_iinc hC.1 hC.2.1 hd hl hj (iI_add a n) hn rfl (fun ls hl => k p e s m args below meth c H locs _ hC hP hS hl)
theorem wp_iadd {a : Int} {b : Int} (hd : decode M.2.1 pc = .ok (.iadd, 1)) (k : WG X M R cn sn Qf (pc + 1) lv (.int (iI (a + b)) :: st) h) : WG X M R cn sn Qf pc lv (.int (iI b) :: .int (iI a) :: st) h := by
  intro p e s m args below meth c H locs ls hC hP hS hl
  refine lv_iadd hC.1 hC.2.1 hd ?_
  rw [iI_add]
  exact k p e s m args below meth c H locs _ hC hP hS hl
theorem wp_isub {a : Int} {b : Int} (hd : decode M.2.1 pc = .ok (.isub, 1)) (k : WG X M R cn sn Qf (pc + 1) lv (.int (iI (a - b)) :: st) h) : WG X M R cn sn Qf pc lv (.int (iI b) :: .int (iI a) :: st) h := by
  intro p e s m args below meth c H locs ls hC hP hS hl
  refine lv_isub hC.1 hC.2.1 hd ?_
  rw [iI_sub]
  exact k p e s m args below meth c H locs _ hC hP hS hl
theorem wp_imul {a : Int} {b : Int} (hd : decode M.2.1 pc = .ok (.imul, 1)) (k : WG X M R cn sn Qf (pc + 1) lv (.int (iI (a * b)) :: st) h) : WG X M R cn sn Qf pc lv (.int (iI b) :: .int (iI a) :: st) h := by
  intro p e s m args below meth c H locs ls hC hP hS hl
  refine lv_imul hC.1 hC.2.1 hd ?_
  rw [iI_mul]
  exact k p e s m args below meth c H locs _ hC hP hS hl
theorem wp_ineg {a : Int} (hd : decode M.2.1 pc = .ok (.ineg, 1)) (k : WG X M R cn sn Qf (pc + 1) lv (.int (iI (-a)) :: st) h) : WG X M R cn sn Qf pc lv (.int (iI a) :: st) h := by
  intro p e s m args below meth c H locs ls hC hP hS hl
  refine lv_ineg hC.1 hC.2.1 hd ?_
  rw [iI_neg]
  exact k p e s m args below meth c H locs _ hC hP hS hl
theorem wp_idiv {a : Int} {b : Int} (hd : decode M.2.1 pc = .ok (.idiv, 1)) (ha : InR a) (hb : InR b) (h0 : ¬ b = 0) (hq : InR (a.tdiv b)) (k : WG X M R cn sn Qf (pc + 1) lv (.int (iI (a.tdiv b)) :: st) h) : WG X M R cn sn Qf pc lv (.int (iI b) :: .int (iI a) :: st) h := by
  intro p e s m args below meth c H locs ls hC hP hS hl
  refine lv_idiv hC.1 hC.2.1 hd (by rw [iI_0, iI_eq hb inR_0]; exact h0) ?_
  rw [iI_div ha hb hq]
  exact k p e s m args below meth c H locs _ hC hP hS hl
theorem wp_irem {a : Int} {b : Int} (hd : decode M.2.1 pc = .ok (.irem, 1)) (ha : InR a) (hb : InR b) (h0 : ¬ b = 0) (hq : InR (a.tdiv b)) (k : WG X M R cn sn Qf (pc + 1) lv (.int (iI (a.tmod b)) :: st) h) : WG X M R cn sn Qf pc lv (.int (iI b) :: .int (iI a) :: st) h := by
  intro p e s m args below meth c H locs ls hC hP hS hl
  refine lv_irem hC.1 hC.2.1 hd (by rw [iI_0, iI_eq hb inR_0]; exact h0) ?_
  rw [iI_rem ha hb hq]
  exact k p e s m args below meth c H locs _ hC hP hS hl
theorem wp_iand {a b : Int} (hd : decode M.2.1 pc = .ok (.iand, 1)) (k : WG X M R cn sn Qf (pc + 1) lv (.int (iI (iAnd a b)) :: st) h) : WG X M R cn sn Qf pc lv (.int (iI b) :: .int (iI a) :: st) h := by
  intro p e s m args below meth c H locs ls hC hP hS hl
  refine lv_iand hC.1 hC.2.1 hd ?_
  have k1 := k p e s m args below meth c H locs _ hC hP hS hl
  unfold iAnd at k1
  rw [iI_of] at k1
  exact k1
theorem wp_ior {a b : Int} (hd : decode M.2.1 pc = .ok (.ior, 1)) (k : WG X M R cn sn Qf (pc + 1) lv (.int (iI (iOr a b)) :: st) h) : WG X M R cn sn Qf pc lv (.int (iI b) :: .int (iI a) :: st) h := by
  intro p e s m args below meth c H locs ls hC hP hS hl
  refine lv_ior hC.1 hC.2.1 hd ?_
  have k1 := k p e s m args below meth c H locs _ hC hP hS hl
  unfold iOr at k1
  rw [iI_of] at k1
  exact k1
theorem wp_ishl {a b : Int} (hd : decode M.2.1 pc = .ok (.ishl, 1)) (k : WG X M R cn sn Qf (pc + 1) lv (.int (iI (iShl a b)) :: st) h) : WG X M R cn sn Qf pc lv (.int (iI b) :: .int (iI a) :: st) h := by
  intro p e s m args below meth c H locs ls hC hP hS hl
  refine lv_ishl hC.1 hC.2.1 hd ?_
  have k1 := k p e s m args below meth c H locs _ hC hP hS hl
  unfold iShl at k1
  rw [iI_of] at k1
  exact k1
theorem wp_ishr {a b : Int} (hd : decode M.2.1 pc = .ok (.ishr, 1)) (k : WG X M R cn sn Qf (pc + 1) lv (.int (iI (iShr a b)) :: st) h) : WG X M R cn sn Qf pc lv (.int (iI b) :: .int (iI a) :: st) h := by
  intro p e s m args below meth c H locs ls hC hP hS hl
  refine lv_ishr hC.1 hC.2.1 hd ?_
  have k1 := k p e s m args below meth c H locs _ hC hP hS hl
  unfold iShr at k1
  rw [iI_of] at k1
  exact k1
theorem wp_iushr {a b : Int} (hd : decode M.2.1 pc = .ok (.iushr, 1)) (k : WG X M R cn sn Qf (pc + 1) lv (.int (iI (iUsh a b)) :: st) h) : WG X M R cn sn Qf pc lv (.int (iI b) :: .int (iI a) :: st) h := by
  intro p e s m args below meth c H locs ls hC hP hS hl
  exact lv_iushr hC.1 hC.2.1 hd (iI_of _).symm (k p e s m args below meth c H locs _ hC hP hS hl)
theorem wp_i2b {a : Int} (hd : decode M.2.1 pc = .ok (.i2b, 1)) (k : WG X M R cn sn Qf (pc + 1) lv (.int (iI (iByte a)) :: st) h) : WG X M R cn sn Qf pc lv (.int (iI a) :: st) h := by
  intro p e s m args below meth c H locs ls hC hP hS hl
  exact lv_i2b hC.1 hC.2.1 hd (iI_of _).symm (k p e s m args below meth c H locs _ hC hP hS hl)
theorem wp_i2c {a : Int} (hd : decode M.2.1 pc = .ok (.i2c, 1)) (k : WG X M R cn sn Qf (pc + 1) lv (.int (iI (iChar a)) :: st) h) : WG X M R cn sn Qf pc lv (.int (iI a) :: st) h := by
  intro p e s m args below meth c H locs ls hC hP hS hl
  exact lv_i2c hC.1 hC.2.1 hd (iI_of _).symm (k p e s m args below meth c H locs _ hC hP hS hl)
theorem wp_i2l {a : Int} (hd : decode M.2.1 pc = .ok (.i2l, 1)) (k : WG X M R cn sn Qf (pc + 1) lv (.long (iI a).toInt64 :: st) h) : WG X M R cn sn Qf pc lv (.int (iI a) :: st) h := by
  intro p e s m args below meth c H locs ls hC hP hS hl
  exact lv_i2l hC.1 hC.2.1 hd rfl (k p e s m args below meth c H locs _ hC hP hS hl)
theorem wp_l2i {x : Int64} (hd : decode M.2.1 pc = .ok (.l2i, 1)) (k : WG X M R cn sn Qf (pc + 1) lv (.int (iI x.toInt32.toInt) :: st) h) : WG X M R cn sn Qf pc lv (.long x :: st) h := by
  intro p e s m args below meth c H locs ls hC hP hS hl
  exact lv_l2i hC.1 hC.2.1 hd (iI_of _).symm (k p e s m args below meth c H locs _ hC hP hS hl)
theorem wp_ladd {x : Int64} {y : Int64} (hd : decode M.2.1 pc = .ok (.ladd, 1)) (k : WG X M R cn sn Qf (pc + 1) lv (.long (x + y) :: st) h) : WG X M R cn sn Qf pc lv (.long y :: .long x :: st) h := by
  intro p e s m args below meth c H locs ls hC hP hS hl
  refine lv_ladd hC.1 hC.2.1 hd ?_
  exact k p e s m args below meth c H locs _ hC hP hS hl
theorem wp_lsub {x : Int64} {y : Int64} (hd : decode M.2.1 pc = .ok (.lsub, 1)) (k : WG X M R cn sn Qf (pc + 1) lv (.long (x - y) :: st) h) : WG X M R cn sn Qf pc lv (.long y :: .long x :: st) h := by
  intro p e s m args below meth c H locs ls hC hP hS hl
  refine lv_lsub hC.1 hC.2.1 hd ?_
  exact k p e s m args below meth c H locs _ hC hP hS hl
theorem wp_lmul {x : Int64} {y : Int64} (hd : decode M.2.1 pc = .ok (.lmul, 1)) (k : WG X M R cn sn Qf (pc + 1) lv (.long (x * y) :: st) h) : WG X M R cn sn Qf pc lv (.long y :: .long x :: st) h := by
  intro p e s m args below meth c H locs ls hC hP hS hl
  refine lv_lmul hC.1 hC.2.1 hd ?_
  exact k p e s m args below meth c H locs _ hC hP hS hl
theorem wp_land {x : Int64} {y : Int64} (hd : decode M.2.1 pc = .ok (.land, 1)) (k : WG X M R cn sn Qf (pc + 1) lv (.long (x &&& y) :: st) h) : WG X M R cn sn Qf pc lv (.long y :: .long x :: st) h := by
  intro p e s m args below meth c H locs ls hC hP hS hl
  refine lv_land hC.1 hC.2.1 hd ?_
  exact k p e s m args below meth c H locs _ hC hP hS hl
theorem wp_lor {x : Int64} {y : Int64} (hd : decode M.2.1 pc = .ok (.lor, 1)) (k : WG X M R cn sn Qf (pc + 1) lv (.long (x ||| y) :: st) h) : WG X M R cn sn Qf pc lv (.long y :: .long x :: st) h := by
  intro p e s m args below meth c H locs ls hC hP hS hl
  refine lv_lor hC.1 hC.2.1 hd ?_
  exact k p e s m args below meth c H locs _ hC hP hS hl
theorem wp_ldiv {x : Int64} {y : Int64} (hd : decode M.2.1 pc = .ok (.ldiv, 1)) (h0 : ¬ y = 0) (k : WG X M R cn sn Qf (pc + 1) lv (.long (x / y) :: st) h) : WG X M R cn sn Qf pc lv (.long y :: .long x :: st) h := by
  intro p e s m args below meth c H locs ls hC hP hS hl
  refine lv_ldiv hC.1 hC.2.1 hd h0 ?_
  exact k p e s m args below meth c H locs _ hC hP hS hl
theorem wp_lrem {x : Int64} {y : Int64} (hd : decode M.2.1 pc = .ok (.lrem, 1)) (h0 : ¬ y = 0) (k : WG X M R cn sn Qf (pc + 1) lv (.long (x - x / y * y) :: st) h) : WG X M R cn sn Qf pc lv (.long y :: .long x :: st) h := by
  intro p e s m args below meth c H locs ls hC hP hS hl
  refine lv_lrem hC.1 hC.2.1 hd h0 ?_
  exact k p e s m args below meth c H locs _ hC hP hS hl
theorem wp_lushr {x : Int64} {b : Int} (hd : decode M.2.1 pc = .ok (.lushr, 1)) (k : WG X M R cn sn Qf (pc + 1) lv (.long (x.toUInt64 >>> ((iI b).toInt64.toUInt64 &&& Int64.toUInt64 63)).toInt64 :: st) h) : WG X M R cn sn Qf pc lv (.int (iI b) :: .long x :: st) h := by
  intro p e s m args below meth c H locs ls hC hP hS hl
  exact lv_lushr hC.1 hC.2.1 hd rfl (k p e s m args below meth c H locs _ hC hP hS hl)
theorem wp_lshl {x : Int64} {b : Int} (hd : decode M.2.1 pc = .ok (.lshl, 1)) (k : WG X M R cn sn Qf (pc + 1) lv (.long (x <<< ((iI b).toInt64 &&& 63)) :: st) h) : WG X M R cn sn Qf pc lv (.int (iI b) :: .long x :: st) h := by
  intro p e s m args below meth c H locs ls hC hP hS hl
  exact lv_lshl hC.1 hC.2.1 hd rfl (k p e s m args below meth c H locs _ hC hP hS hl)
/-- lcmp and the branch behind it see the order of the two -/
def lcm (x y : Int64) : Int := (lg_cmp x y).toInt
theorem wp_lcmp {x y : Int64} (hd : decode M.2.1 pc = .ok (.lcmp, 1)) (k : WG X M R cn sn Qf (pc + 1) lv (.int (iI (lcm x y)) :: st) h) : WG X M R cn sn Qf pc lv (.long y :: .long x :: st) h := by
  intro p e s m args below meth c H locs ls hC hP hS hl
  refine W.lcmp hC.1 hC.2.1 hd ?_
  have k1 := k p e s m args below meth c H locs _ hC hP hS hl
  unfold lcm at k1
  rw [iI_of] at k1
  exact k1
theorem wp_dup {v : Value} (hd : decode M.2.1 pc = .ok (.dup, 1)) (hv : v.category = 1) (k : WG X M R cn sn Qf (pc + 1) lv (v :: v :: st) h) : WG X M R cn sn Qf pc lv (v :: st) h := by
  intro p e s m args below meth c H locs ls hC hP hS hl
  exact lv_dup hC.1 hC.2.1 hd hv (k p e s m args below meth c H locs _ hC hP hS hl)
theorem wp_pop {v : Value} (hd : decode M.2.1 pc = .ok (.pop, 1)) (hv : v.category = 1) (k : WG X M R cn sn Qf (pc + 1) lv st h) : WG X M R cn sn Qf pc lv (v :: st) h := by
  intro p e s m args below meth c H locs ls hC hP hS hl
  exact lv_pop hC.1 hC.2.1 hd hv (k p e s m args below meth c H locs _ hC hP hS hl)
theorem wp_dup2 {v w : Value} (hd : decode M.2.1 pc = .ok (.dup2, 1)) (hv : v.category = 1) (hw : w.category = 1) (k : WG X M R cn sn Qf (pc + 1) lv (v :: w :: v :: w :: st) h) : WG X M R cn sn Qf pc lv (v :: w :: st) h := by
  intro p e s m args below meth c H locs ls hC hP hS hl
  exact lv_dup2_11 hC.1 hC.2.1 hd hv hw (k p e s m args below meth c H locs _ hC hP hS hl)
theorem wp_ifeq {a : Int} {off : Int} (tgt : Nat) (hd : decode M.2.1 pc = .ok (.ifCond .eq off, 3)) (ht : (pc : Int) + off = (tgt : Int)) (ha : InR a) (kt : a = 0 → WG X M R cn sn Qf tgt lv st h) (kf : ¬ (a = 0) → WG X M R cn sn Qf (pc + 3) lv st h) : WG X M R cn sn Qf pc lv (.int (iI a) :: st) h := by
  intro p e s m args below meth c H locs ls hC hP hS hl
  refine lv_if_eq hC.1 hC.2.1 hd ht ?_ ?_
  · intro q
    exact (fun q => kt ((iI_eq ha inR_0).mp q)) q p e s m args below meth c H locs _ hC hP hS hl
  · intro q
    exact (fun q => kf (fun z => q ((iI_eq ha inR_0).mpr z))) q p e s m args below meth c H locs _ hC hP hS hl
theorem wp_icmpeq {a b : Int} {off : Int} (tgt : Nat) (hd : decode M.2.1 pc = .ok (.if_icmp .eq off, 3)) (ht : (pc : Int) + off = (tgt : Int)) (ha : InR a) (hb : InR b) (kt : a = b → WG X M R cn sn Qf tgt lv st h) (kf : ¬ (a = b) → WG X M R cn sn Qf (pc + 3) lv st h) : WG X M R cn sn Qf pc lv (.int (iI b) :: .int (iI a) :: st) h := by
  intro p e s m args below meth c H locs ls hC hP hS hl
  refine lv_icmp_eq hC.1 hC.2.1 hd ht ?_ ?_
  · intro q
    exact (fun q => kt ((iI_eq ha hb).mp q)) q p e s m args below meth c H locs _ hC hP hS hl
  · intro q
    exact (fun q => kf (fun z => q ((iI_eq ha hb).mpr z))) q p e s m args below meth c H locs _ hC hP hS hl
theorem wp_ifne {a : Int} {off : Int} (tgt : Nat) (hd : decode M.2.1 pc = .ok (.ifCond .ne off, 3)) (ht : (pc : Int) + off = (tgt : Int)) (ha : InR a) (kt : ¬ a = 0 → WG X M R cn sn Qf tgt lv st h) (kf : a = 0 → WG X M R cn sn Qf (pc + 3) lv st h) : WG X M R cn sn Qf pc lv (.int (iI a) :: st) h := by
  intro p e s m args below meth c H locs ls hC hP hS hl
  refine lv_if_ne hC.1 hC.2.1 hd ht ?_ ?_
  · intro q
    exact (fun q => kt (fun z => q ((iI_eq ha inR_0).mpr z))) q p e s m args below meth c H locs _ hC hP hS hl
  · intro q
    exact (fun q => kf ((iI_eq ha inR_0).mp q)) q p e s m args below meth c H locs _ hC hP hS hl
theorem wp_icmpne {a b : Int} {off : Int} (tgt : Nat) (hd : decode M.2.1 pc = .ok (.if_icmp .ne off, 3)) (ht : (pc : Int) + off = (tgt : Int)) (ha : InR a) (hb : InR b) (kt : ¬ a = b → WG X M R cn sn Qf tgt lv st h) (kf : a = b → WG X M R cn sn Qf (pc + 3) lv st h) : WG X M R cn sn Qf pc lv (.int (iI b) :: .int (iI a) :: st) h := by
  intro p e s m args below meth c H locs ls hC hP hS hl
  refine lv_icmp_ne hC.1 hC.2.1 hd ht ?_ ?_
  · intro q
    exact (fun q => kt (fun z => q ((iI_eq ha hb).mpr z))) q p e s m args below meth c H locs _ hC hP hS hl
  · intro q
    exact (fun q => kf ((iI_eq ha hb).mp q)) q p e s m args below meth c H locs _ hC hP hS hl
theorem wp_iflt {a : Int} {off : Int} (tgt : Nat) (hd : decode M.2.1 pc = .ok (.ifCond .lt off, 3)) (ht : (pc : Int) + off = (tgt : Int)) (ha : InR a) (kt : a < 0 → WG X M R cn sn Qf tgt lv st h) (kf : ¬ (a < 0) → WG X M R cn sn Qf (pc + 3) lv st h) : WG X M R cn sn Qf pc lv (.int (iI a) :: st) h := by
  intro p e s m args below meth c H locs ls hC hP hS hl
  refine lv_if_lt hC.1 hC.2.1 hd ht ?_ ?_
  · intro q
    exact (fun q => kt ((iI_lt ha inR_0).mp q)) q p e s m args below meth c H locs _ hC hP hS hl
  · intro q
    exact (fun q => kf (fun z => q ((iI_lt ha inR_0).mpr z))) q p e s m args below meth c H locs _ hC hP hS hl
theorem wp_icmplt {a b : Int} {off : Int} (tgt : Nat) (hd : decode M.2.1 pc = .ok (.if_icmp .lt off, 3)) (ht : (pc : Int) + off = (tgt : Int)) (ha : InR a) (hb : InR b) (kt : a < b → WG X M R cn sn Qf tgt lv st h) (kf : ¬ (a < b) → WG X M R cn sn Qf (pc + 3) lv st h) : WG X M R cn sn Qf pc lv (.int (iI b) :: .int (iI a) :: st) h := by
  intro p e s m args below meth c H locs ls hC hP hS hl
  refine lv_icmp_lt hC.1 hC.2.1 hd ht ?_ ?_
  · intro q
    exact (fun q => kt ((iI_lt ha hb).mp q)) q p e s m args below meth c H locs _ hC hP hS hl
  · intro q
    exact (fun q => kf (fun z => q ((iI_lt ha hb).mpr z))) q p e s m args below meth c H locs _ hC hP hS hl
theorem wp_ifge {a : Int} {off : Int} (tgt : Nat) (hd : decode M.2.1 pc = .ok (.ifCond .ge off, 3)) (ht : (pc : Int) + off = (tgt : Int)) (ha : InR a) (kt : 0 ≤ a → WG X M R cn sn Qf tgt lv st h) (kf : ¬ (0 ≤ a) → WG X M R cn sn Qf (pc + 3) lv st h) : WG X M R cn sn Qf pc lv (.int (iI a) :: st) h := by
  intro p e s m args below meth c H locs ls hC hP hS hl
  refine lv_if_ge hC.1 hC.2.1 hd ht ?_ ?_
  · intro q
    exact (fun q => kt ((iI_le inR_0 ha).mp q)) q p e s m args below meth c H locs _ hC hP hS hl
  · intro q
    exact (fun q => kf (fun z => q ((iI_le inR_0 ha).mpr z))) q p e s m args below meth c H locs _ hC hP hS hl
theorem wp_icmpge {a b : Int} {off : Int} (tgt : Nat) (hd : decode M.2.1 pc = .ok (.if_icmp .ge off, 3)) (ht : (pc : Int) + off = (tgt : Int)) (ha : InR a) (hb : InR b) (kt : b ≤ a → WG X M R cn sn Qf tgt lv st h) (kf : ¬ (b ≤ a) → WG X M R cn sn Qf (pc + 3) lv st h) : WG X M R cn sn Qf pc lv (.int (iI b) :: .int (iI a) :: st) h := by
  intro p e s m args below meth c H locs ls hC hP hS hl
  refine lv_icmp_ge hC.1 hC.2.1 hd ht ?_ ?_
  · intro q
    exact (fun q => kt ((iI_le hb ha).mp q)) q p e s m args below meth c H locs _ hC hP hS hl
  · intro q
    exact (fun q => kf (fun z => q ((iI_le hb ha).mpr z))) q p e s m args below meth c H locs _ hC hP hS hl
theorem wp_ifgt {a : Int} {off : Int} (tgt : Nat) (hd : decode M.2.1 pc = .ok (.ifCond .gt off, 3)) (ht : (pc : Int) + off = (tgt : Int)) (ha : InR a) (kt : 0 < a → WG X M R cn sn Qf tgt lv st h) (kf : ¬ (0 < a) → WG X M R cn sn Qf (pc + 3) lv st h) : WG X M R cn sn Qf pc lv (.int (iI a) :: st) h := by
  intro p e s m args below meth c H locs ls hC hP hS hl
  refine lv_if_gt hC.1 hC.2.1 hd ht ?_ ?_
  · intro q
    exact (fun q => kt ((iI_lt inR_0 ha).mp q)) q p e s m args below meth c H locs _ hC hP hS hl
  · intro q
    exact (fun q => kf (fun z => q ((iI_lt inR_0 ha).mpr z))) q p e s m args below meth c H locs _ hC hP hS hl
theorem wp_icmpgt {a b : Int} {off : Int} (tgt : Nat) (hd : decode M.2.1 pc = .ok (.if_icmp .gt off, 3)) (ht : (pc : Int) + off = (tgt : Int)) (ha : InR a) (hb : InR b) (kt : b < a → WG X M R cn sn Qf tgt lv st h) (kf : ¬ (b < a) → WG X M R cn sn Qf (pc + 3) lv st h) : WG X M R cn sn Qf pc lv (.int (iI b) :: .int (iI a) :: st) h := by
  intro p e s m args below meth c H locs ls hC hP hS hl
  refine lv_icmp_gt hC.1 hC.2.1 hd ht ?_ ?_
  · intro q
    exact (fun q => kt ((iI_lt hb ha).mp q)) q p e s m args below meth c H locs _ hC hP hS hl
  · intro q
    exact (fun q => kf (fun z => q ((iI_lt hb ha).mpr z))) q p e s m args below meth c H locs _ hC hP hS hl
theorem wp_ifle {a : Int} {off : Int} (tgt : Nat) (hd : decode M.2.1 pc = .ok (.ifCond .le off, 3)) (ht : (pc : Int) + off = (tgt : Int)) (ha : InR a) (kt : a ≤ 0 → WG X M R cn sn Qf tgt lv st h) (kf : ¬ (a ≤ 0) → WG X M R cn sn Qf (pc + 3) lv st h) : WG X M R cn sn Qf pc lv (.int (iI a) :: st) h := by
  intro p e s m args below meth c H locs ls hC hP hS hl
  refine lv_if_le hC.1 hC.2.1 hd ht ?_ ?_
  · intro q
    exact (fun q => kt ((iI_le ha inR_0).mp q)) q p e s m args below meth c H locs _ hC hP hS hl
  · intro q
    exact (fun q => kf (fun z => q ((iI_le ha inR_0).mpr z))) q p e s m args below meth c H locs _ hC hP hS hl
theorem wp_icmple {a b : Int} {off : Int} (tgt : Nat) (hd : decode M.2.1 pc = .ok (.if_icmp .le off, 3)) (ht : (pc : Int) + off = (tgt : Int)) (ha : InR a) (hb : InR b) (kt : a ≤ b → WG X M R cn sn Qf tgt lv st h) (kf : ¬ (a ≤ b) → WG X M R cn sn Qf (pc + 3) lv st h) : WG X M R cn sn Qf pc lv (.int (iI b) :: .int (iI a) :: st) h := by
  intro p e s m args below meth c H locs ls hC hP hS hl
  refine lv_icmp_le hC.1 hC.2.1 hd ht ?_ ?_
  · intro q
    exact (fun q => kt ((iI_le ha hb).mp q)) q p e s m args below meth c H locs _ hC hP hS hl
  · intro q
    exact (fun q => kf (fun z => q ((iI_le ha hb).mpr z))) q p e s m args below meth c H locs _ hC hP hS hl
theorem wp_goto {off : Int} (tgt : Nat) (hd : decode M.2.1 pc = .ok (.goto off, 3)) (ht : (pc : Int) + off = (tgt : Int)) (k : WG X M R cn sn Qf tgt lv st h) : WG X M R cn sn Qf pc lv st h := by
  intro p e s m args below meth c H locs ls hC hP hS hl
  exact lv_goto hC.1 hC.2.1 hd ht (k p e s m args below meth c H locs _ hC hP hS hl)
theorem wp_tsw {a : Int} {dflt lo hi : Int} {offs : Array Int} {len : Nat} (ha : InR a) (hd : decode M.2.1 pc = .ok (.tableswitch dflt lo hi offs, len)) (kin : ∀ (off : Int) (tgt : Nat), ¬ a < lo → ¬ hi < a → offs[(a - lo).toNat]? = some off → (pc : Int) + off = (tgt : Int) → WG X M R cn sn Qf tgt lv st h) (hof : ¬ a < lo → ¬ hi < a → ∃ (off : Int) (tgt : Nat), offs[(a - lo).toNat]? = some off ∧ (pc : Int) + off = (tgt : Int)) (tgt : Nat) (ht : (pc : Int) + dflt = (tgt : Int)) (kout : (a < lo ∨ hi < a) → WG X M R cn sn Qf tgt lv st h) : WG X M R cn sn Qf pc lv (.int (iI a) :: st) h := by
  intro p e s m args below meth c H locs ls hC hP hS hl
  by_cases h1 : a < lo ∨ hi < a
  · exact lv_tableOut hC.1 hC.2.1 hd (by rw [iI_toInt ha]; exact h1) ht (kout h1 p e s m args below meth c H locs _ hC hP hS hl)
  · have n1 : ¬ a < lo := fun q => h1 (Or.inl q)
    have n2 : ¬ hi < a := fun q => h1 (Or.inr q)
    obtain ⟨off, tgt, e1, e2⟩ := hof n1 n2
    exact lv_tableIn hC.1 hC.2.1 hd (by rw [iI_toInt ha]; exact n1) (by rw [iI_toInt ha]; exact n2) (by rw [iI_toInt ha]; exact e1) e2 (kin off tgt n1 n2 e1 e2 p e s m args below meth c H locs _ hC hP hS hl)
theorem wp_lsw {a : Int} {dflt : Int} {ps : Array (Int × Int)} {len : Nat} {off : Int} (ha : InR a) (hd : decode M.2.1 pc = .ok (.lookupswitch dflt ps, len)) (hp : (ps.toList.zip (ps.toList.drop 1)).all (fun (a, next) => a.1 < next.1) = true) (tgt : Nat) (ho : Op.lookupswitch.offset ps.toList dflt a = off) (ht : (pc : Int) + off = (tgt : Int)) (k : WG X M R cn sn Qf tgt lv st h) : WG X M R cn sn Qf pc lv (.int (iI a) :: st) h := by
  intro p e s m args below meth c H locs ls hC hP hS hl
  exact lv_lookup hC.1 hC.2.1 hd hp (by rw [iI_toInt ha]; exact ho) ht (k p e s m args below meth c H locs _ hC hP hS hl)
theorem wp_iret {a : Int} (hd : decode M.2.1 pc = .ok (.ireturn, 1)) (hr : M.2.2.2 = some .int) (hq : Post (some (.int (iI a))) h) : WP X M d pc lv [.int (iI a)] h Post := by
  intro p e s m args below meth c H locs ls hC hP hS hl
  exact W.iret hC.1 hC.2.1 (hC.2.2.1.trans hr) (fun t ht _ => ⟨⟨_, h, rfl, hq, by rw [ht]; exact hP⟩, hS.F ht⟩) hS.2.2 hd hC.2.2.2.2.2.2.1
theorem wp_zret {a : Int} (hd : decode M.2.1 pc = .ok (.ireturn, 1)) (hr : M.2.2.2 = some .boolean) (hz : a = 0 ∨ a = 1) (hq : Post (some (.int (iI a))) h) : WP X M d pc lv [.int (iI a)] h Post := by
  intro p e s m args below meth c H locs ls hC hP hS hl
  exact W.zret hC.1 hC.2.1 (hC.2.2.1.trans hr) (by rcases hz with rfl | rfl <;> rfl) (fun t ht _ => ⟨⟨_, h, rfl, hq, by rw [ht]; exact hP⟩, hS.F ht⟩) hS.2.2 hd hC.2.2.2.2.2.2.1
theorem wp_lret {x : Int64} (hd : decode M.2.1 pc = .ok (.lreturn, 1)) (hr : M.2.2.2 = some .long) (hq : Post (some (.long x)) h) : WP X M d pc lv [.long x] h Post := by
  intro p e s m args below meth c H locs ls hC hP hS hl
  exact W.lret hC.1 hC.2.1 (hC.2.2.1.trans hr) (fun t ht _ => ⟨⟨_, h, rfl, hq, by rw [ht]; exact hP⟩, hS.F ht⟩) hS.2.2 hd hC.2.2.2.2.2.2.1
theorem wp_ret (hd : decode M.2.1 pc = .ok (.return_, 1)) (hr : M.2.2.2 = none) (hq : Post none h) : WP X M d pc lv [] h Post := by
  intro p e s m args below meth c H locs ls hC hP hS hl
  exact W.vret hC.1 hC.2.1 (hC.2.2.1.trans hr) (fun t ht _ => ⟨⟨_, h, rfl, hq, by rw [ht]; exact hP⟩, hS.F ht⟩) hS.2.2 hd hC.2.2.2.2.2.2.1
end Rules
