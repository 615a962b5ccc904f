/-! rows over V: locals, stack, arithmetic, branches (written by a program) -/
section
variable {k : MT} {R : Room} {cu su pc : Nat} {L : List (Option AV)} {st : List AV} {u : GW} {Q : Option AV → GW → Prop}
theorem r_iadd {x y : Int} (hd : decode k.2.1 pc = .ok (.iadd, 1)) (kk : V k R cu su (pc + 1) L (vI (x + y) :: st) u Q) : V k R cu su pc L (vI y :: vI x :: st) u Q := by
  intro g a p l e s m args below meth c Z C H locs ls d0 hd0 hl hH
  have K := kk g a p l e s m args below meth c Z C H locs ls d0 hd0 hl hH
  refine lv_iadd C.1 C.2.1 hd ?_
  rw [zi_add]
  exact K
theorem r_isub {x y : Int} (hd : decode k.2.1 pc = .ok (.isub, 1)) (kk : V k R cu su (pc + 1) L (vI (x - y) :: st) u Q) : V k R cu su pc L (vI y :: vI x :: st) u Q := by
  intro g a p l e s m args below meth c Z C H locs ls d0 hd0 hl hH
  have K := kk g a p l e s m args below meth c Z C H locs ls d0 hd0 hl hH
  refine lv_isub C.1 C.2.1 hd ?_
  rw [zi_sub]
  exact K
theorem r_imul {x y : Int} (hd : decode k.2.1 pc = .ok (.imul, 1)) (kk : V k R cu su (pc + 1) L (vI (x * y) :: st) u Q) : V k R cu su pc L (vI y :: vI x :: st) u Q := by
  intro g a p l e s m args below meth c Z C H locs ls d0 hd0 hl hH
  have K := kk g a p l e s m args below meth c Z C H locs ls d0 hd0 hl hH
  refine lv_imul C.1 C.2.1 hd ?_
  rw [zi_mul]
  exact K
theorem r_ladd {x y : Int} (hd : decode k.2.1 pc = .ok (.ladd, 1)) (kk : V k R cu su (pc + 1) L (vL (x + y) :: st) u Q) : V k R cu su pc L (vL y :: vL x :: st) u Q := by
  intro g a p l e s m args below meth c Z C H locs ls d0 hd0 hl hH
  have K := kk g a p l e s m args below meth c Z C H locs ls d0 hd0 hl hH
  refine lv_ladd C.1 C.2.1 hd ?_
  rw [zl_add]
  exact K
theorem r_lsub {x y : Int} (hd : decode k.2.1 pc = .ok (.lsub, 1)) (kk : V k R cu su (pc + 1) L (vL (x - y) :: st) u Q) : V k R cu su pc L (vL y :: vL x :: st) u Q := by
  intro g a p l e s m args below meth c Z C H locs ls d0 hd0 hl hH
  have K := kk g a p l e s m args below meth c Z C H locs ls d0 hd0 hl hH
  refine lv_lsub C.1 C.2.1 hd ?_
  rw [zl_sub]
  exact K
theorem r_lmul {x y : Int} (hd : decode k.2.1 pc = .ok (.lmul, 1)) (kk : V k R cu su (pc + 1) L (vL (x * y) :: st) u Q) : V k R cu su pc L (vL y :: vL x :: st) u Q := by
  intro g a p l e s m args below meth c Z C H locs ls d0 hd0 hl hH
  have K := kk g a p l e s m args below meth c Z C H locs ls d0 hd0 hl hH
  refine lv_lmul C.1 C.2.1 hd ?_
  rw [zl_mul]
  exact K
theorem r_ineg {x : Int} (hd : decode k.2.1 pc = .ok (.ineg, 1)) (kk : V k R cu su (pc + 1) L (vI (-x) :: st) u Q) : V k R cu su pc L (vI x :: st) u Q := by
  intro g a p l e s m args below meth c Z C H locs ls d0 hd0 hl hH
  have K := kk g a p l e s m args below meth c Z C H locs ls d0 hd0 hl hH
  refine lv_ineg C.1 C.2.1 hd ?_
  rw [zi_neg]
  exact K
theorem r_lneg {x : Int} (hd : decode k.2.1 pc = .ok (.lneg, 1)) (kk : V k R cu su (pc + 1) L (vL (-x) :: st) u Q) : V k R cu su pc L (vL x :: st) u Q := by
  intro g a p l e s m args below meth c Z C H locs ls d0 hd0 hl hH
  have K := kk g a p l e s m args below meth c Z C H locs ls d0 hd0 hl hH
  refine lv_lneg C.1 C.2.1 hd ?_
  rw [zl_neg]
  exact K
theorem r_idiv {x y : Int} (hd : decode k.2.1 pc = .ok (.idiv, 1)) (hx : R32 x) (hy : R32 y) (hne : y ≠ 0) (kk : V k R cu su (pc + 1) L (vI (x.tdiv y) :: st) u Q) : V k R cu su pc L (vI y :: vI x :: st) u Q := by
  intro g a p l e s m args below meth c Z C H locs ls d0 hd0 hl hH
  have K := kk g a p l e s m args below meth c Z C H locs ls d0 hd0 hl hH
  refine lv_idiv C.1 C.2.1 hd (by rw [zi_0, zi_eq hy z0r]; exact hne) ?_
  rw [zi_div hx hy]
  exact K
theorem r_irem {x y : Int} (hd : decode k.2.1 pc = .ok (.irem, 1)) (hx : R32 x) (hy : R32 y) (hne : y ≠ 0) (kk : V k R cu su (pc + 1) L (vI (x.tmod y) :: st) u Q) : V k R cu su pc L (vI y :: vI x :: st) u Q := by
  intro g a p l e s m args below meth c Z C H locs ls d0 hd0 hl hH
  have K := kk g a p l e s m args below meth c Z C H locs ls d0 hd0 hl hH
  refine lv_irem C.1 C.2.1 hd (by rw [zi_0, zi_eq hy z0r]; exact hne) ?_
  rw [zi_rem hx hy]
  exact K
theorem r_ldiv {x y : Int} (hd : decode k.2.1 pc = .ok (.ldiv, 1)) (hx : R64 x) (hy : R64 y) (hne : y ≠ 0) (kk : V k R cu su (pc + 1) L (vL (x.tdiv y) :: st) u Q) : V k R cu su pc L (vL y :: vL x :: st) u Q := by
  intro g a p l e s m args below meth c Z C H locs ls d0 hd0 hl hH
  have K := kk g a p l e s m args below meth c Z C H locs ls d0 hd0 hl hH
  refine lv_ldiv C.1 C.2.1 hd (by rw [show (0 : Int64) = Int64.ofInt 0 from rfl, zl_eq hy (by constructor <;> omega)]; exact hne) ?_
  rw [zl_div hx hy]
  exact K
theorem r_lrem {x y : Int} (hd : decode k.2.1 pc = .ok (.lrem, 1)) (hx : R64 x) (hy : R64 y) (hne : y ≠ 0) (kk : V k R cu su (pc + 1) L (vL (x.tmod y) :: st) u Q) : V k R cu su pc L (vL y :: vL x :: st) u Q := by
  intro g a p l e s m args below meth c Z C H locs ls d0 hd0 hl hH
  have K := kk g a p l e s m args below meth c Z C H locs ls d0 hd0 hl hH
  refine lv_lrem C.1 C.2.1 hd (by rw [show (0 : Int64) = Int64.ofInt 0 from rfl, zl_eq hy (by constructor <;> omega)]; exact hne) ?_
  rw [zl_rem hx hy]
  exact K
theorem r_ixor {x y : Int} (hd : decode k.2.1 pc = .ok (.ixor, 1)) (kk : V k R cu su (pc + 1) L (vI (xorI x y) :: st) u Q) : V k R cu su pc L (vI y :: vI x :: st) u Q := by
  intro g a p l e s m args below meth c Z C H locs ls d0 hd0 hl hH
  have K := kk g a p l e s m args below meth c Z C H locs ls d0 hd0 hl hH
  refine lv_ixor C.1 C.2.1 hd ?_
  rw [← zi_of (Int32.ofInt x ^^^ Int32.ofInt y)]
  exact K
theorem r_iand {x y : Int} (hd : decode k.2.1 pc = .ok (.iand, 1)) (kk : V k R cu su (pc + 1) L (vI (andI x y) :: st) u Q) : V k R cu su pc L (vI y :: vI x :: st) u Q := by
  intro g a p l e s m args below meth c Z C H locs ls d0 hd0 hl hH
  have K := kk g a p l e s m args below meth c Z C H locs ls d0 hd0 hl hH
  refine lv_iand C.1 C.2.1 hd ?_
  rw [← zi_of (Int32.ofInt x &&& Int32.ofInt y)]
  exact K
theorem r_lxor {x y : Int} (hd : decode k.2.1 pc = .ok (.lxor, 1)) (kk : V k R cu su (pc + 1) L (vL (xorL x y) :: st) u Q) : V k R cu su pc L (vL y :: vL x :: st) u Q := by
  intro g a p l e s m args below meth c Z C H locs ls d0 hd0 hl hH
  have K := kk g a p l e s m args below meth c Z C H locs ls d0 hd0 hl hH
  refine lv_lxor C.1 C.2.1 hd ?_
  rw [← zl_of (Int64.ofInt x ^^^ Int64.ofInt y)]
  exact K
theorem r_i2l {x : Int} (hd : decode k.2.1 pc = .ok (.i2l, 1)) (hx : R32 x) (kk : V k R cu su (pc + 1) L (vL x :: st) u Q) : V k R cu su pc L (vI x :: st) u Q := by
  intro g a p l e s m args below meth c Z C H locs ls d0 hd0 hl hH
  have K := kk g a p l e s m args below meth c Z C H locs ls d0 hd0 hl hH
  exact lv_i2l C.1 C.2.1 hd (zi_l hx) K
theorem r_l2i {x : Int} (hd : decode k.2.1 pc = .ok (.l2i, 1)) (kk : V k R cu su (pc + 1) L (vI x :: st) u Q) : V k R cu su pc L (vL x :: st) u Q := by
  intro g a p l e s m args below meth c Z C H locs ls d0 hd0 hl hH
  have K := kk g a p l e s m args below meth c Z C H locs ls d0 hd0 hl hH
  exact lv_l2i C.1 C.2.1 hd (zl_i x) K
theorem r_lcmp {x y : Int} (hd : decode k.2.1 pc = .ok (.lcmp, 1)) (hx : R64 x) (hy : R64 y) (kk : V k R cu su (pc + 1) L (vI (cmpZ x y) :: st) u Q) : V k R cu su pc L (vL y :: vL x :: st) u Q := by
  intro g a p l e s m args below meth c Z C H locs ls d0 hd0 hl hH
  have K := kk g a p l e s m args below meth c Z C H locs ls d0 hd0 hl hH
  refine W.lcmp C.1 C.2.1 hd ?_
  rw [zl_cmp hx hy]
  exact K
theorem r_iconst {n : Int} (hd : decode k.2.1 pc = .ok (.iconst n, 1)) (kk : V k R cu su (pc + 1) L (vI n :: st) u Q) : V k R cu su pc L (st) u Q := by
  intro g a p l e s m args below meth c Z C H locs ls d0 hd0 hl hH
  have K := kk g a p l e s m args below meth c Z C H locs ls d0 hd0 hl hH
  exact lv_iconst C.1 C.2.1 hd rfl K
theorem r_bipush {n : Int} (hd : decode k.2.1 pc = .ok (.bipush n, 2)) (hv : (Int8.ofInt n).toInt32 = Int32.ofInt n) (kk : V k R cu su (pc + 2) L (vI n :: st) u Q) : V k R cu su pc L (st) u Q := by
  intro g a p l e s m args below meth c Z C H locs ls d0 hd0 hl hH
  have K := kk g a p l e s m args below meth c Z C H locs ls d0 hd0 hl hH
  exact lv_bipush C.1 C.2.1 hd hv K
theorem r_sipush {n : Int} (hd : decode k.2.1 pc = .ok (.sipush n, 3)) (hv : (Int16.ofInt n).toInt32 = Int32.ofInt n) (kk : V k R cu su (pc + 3) L (vI n :: st) u Q) : V k R cu su pc L (st) u Q := by
  intro g a p l e s m args below meth c Z C H locs ls d0 hd0 hl hH
  have K := kk g a p l e s m args below meth c Z C H locs ls d0 hd0 hl hH
  exact lv_sipush C.1 C.2.1 hd hv K
theorem r_lconst0 (hd : decode k.2.1 pc = .ok (.lconst 0, 1)) (kk : V k R cu su (pc + 1) L (vL 0 :: st) u Q) : V k R cu su pc L (st) u Q := by
  intro g a p l e s m args below meth c Z C H locs ls d0 hd0 hl hH
  have K := kk g a p l e s m args below meth c Z C H locs ls d0 hd0 hl hH
  exact lv_lconst C.1 C.2.1 hd rfl K
theorem r_lconst1 (hd : decode k.2.1 pc = .ok (.lconst 1, 1)) (kk : V k R cu su (pc + 1) L (vL 1 :: st) u Q) : V k R cu su pc L (st) u Q := by
  intro g a p l e s m args below meth c Z C H locs ls d0 hd0 hl hH
  have K := kk g a p l e s m args below meth c Z C H locs ls d0 hd0 hl hH
  exact lv_lconst C.1 C.2.1 hd rfl K
theorem r_null (hd : decode k.2.1 pc = .ok (.aconst_null, 1)) (kk : V k R cu su (pc + 1) L (vR none :: st) u Q) : V k R cu su pc L (st) u Q := by
  intro g a p l e s m args below meth c Z C H locs ls d0 hd0 hl hH
  have K := kk g a p l e s m args below meth c Z C H locs ls d0 hd0 hl hH
  exact lv_null C.1 C.2.1 hd K
theorem r_fconst0 (hd : decode k.2.1 pc = .ok (.fconst 0, 1)) (kk : V k R cu su (pc + 1) L (vF FP.fconst0 :: st) u Q) : V k R cu su pc L (st) u Q := by
  intro g a p l e s m args below meth c Z C H locs ls d0 hd0 hl hH
  have K := kk g a p l e s m args below meth c Z C H locs ls d0 hd0 hl hH
  exact lv_fconst0 C.1 C.2.1 hd K
theorem r_dconst0 (hd : decode k.2.1 pc = .ok (.dconst 0, 1)) (kk : V k R cu su (pc + 1) L (vD FP.dconst0 :: st) u Q) : V k R cu su pc L (st) u Q := by
  intro g a p l e s m args below meth c Z C H locs ls d0 hd0 hl hH
  have K := kk g a p l e s m args below meth c Z C H locs ls d0 hd0 hl hH
  exact lv_dconst0 C.1 C.2.1 hd K
theorem r_ldc {idx : Nat} {n : Int} {v : Int32} (hd : decode k.2.1 pc = .ok (.ldc idx, 2)) (hw : Jvm.Cond.constant k.1.cls idx v ∈ gW) (hv : v = Int32.ofInt n) (kk : V k R cu su (pc + 2) L (vI n :: st) u Q) : V k R cu su pc L (st) u Q := by
  intro g a p l e s m args below meth c Z C H locs ls d0 hd0 hl hH
  have K := kk g a p l e s m args below meth c Z C H locs ls d0 hd0 hl hH
  subst hv
  exact lv_ldc C.1 C.2.1 (own := k.1.cls) C.2.2.2.1 (dr_words C.2.2.2.2.1 d0 _ hw) hd K
theorem r_ldcf {idx : Nat} {v : UInt32} (hd : decode k.2.1 pc = .ok (.ldc idx, 2)) (hw : Jvm.Cond.constantFloat k.1.cls idx v ∈ gW) (kk : V k R cu su (pc + 2) L (vF v :: st) u Q) : V k R cu su pc L (st) u Q := by
  intro g a p l e s m args below meth c Z C H locs ls d0 hd0 hl hH
  have K := kk g a p l e s m args below meth c Z C H locs ls d0 hd0 hl hH
  exact lv_ldcf C.1 C.2.1 (own := k.1.cls) C.2.2.2.1 (dr_words C.2.2.2.2.1 d0 _ hw) hd K
theorem r_ldc2 {idx : Nat} {n : Int} {v : Int64} (hd : decode k.2.1 pc = .ok (.ldc2_w idx, 3)) (hw : Jvm.Cond.constantLong k.1.cls idx v ∈ gW) (hv : v = Int64.ofInt n) (kk : V k R cu su (pc + 3) L (vL n :: st) u Q) : V k R cu su pc L (st) u Q := by
  intro g a p l e s m args below meth c Z C H locs ls d0 hd0 hl hH
  have K := kk g a p l e s m args below meth c Z C H locs ls d0 hd0 hl hH
  subst hv
  exact lv_ldc2 C.1 C.2.1 (own := k.1.cls) C.2.2.2.1 (dr_words C.2.2.2.2.1 d0 _ hw) hd K
theorem r_ldc2d {idx : Nat} {v : UInt64} (hd : decode k.2.1 pc = .ok (.ldc2_w idx, 3)) (hw : Jvm.Cond.constantDouble k.1.cls idx v ∈ gW) (kk : V k R cu su (pc + 3) L (vD v :: st) u Q) : V k R cu su pc L (st) u Q := by
  intro g a p l e s m args below meth c Z C H locs ls d0 hd0 hl hH
  have K := kk g a p l e s m args below meth c Z C H locs ls d0 hd0 hl hH
  exact lv_ldc2d C.1 C.2.1 (own := k.1.cls) C.2.2.2.1 (dr_words C.2.2.2.2.1 d0 _ hw) hd K
theorem r_iload_n {q : Fin 4} {x : Int} (hd : decode k.2.1 pc = .ok (.iload_n q, 1)) (hi : L[(q : Nat)]? = some (some (vI x))) (kk : V k R cu su (pc + 1) L (vI x :: st) u Q) : V k R cu su pc L (st) u Q := by
  intro g a p l e s m args below meth c Z C H locs ls d0 hd0 hl hH
  have K := kk g a p l e s m args below meth c Z C H locs ls d0 hd0 hl hH
  exact lv_iload_n C.1 C.2.1 hd rfl (hl.2.2.2 _ _ hi) K
theorem r_iload {i : Nat} {x : Int} (hd : decode k.2.1 pc = .ok (.iload i, 2)) (hi : L[i]? = some (some (vI x))) (kk : V k R cu su (pc + 2) L (vI x :: st) u Q) : V k R cu su pc L (st) u Q := by
  intro g a p l e s m args below meth c Z C H locs ls d0 hd0 hl hH
  have K := kk g a p l e s m args below meth c Z C H locs ls d0 hd0 hl hH
  exact lv_iload C.1 C.2.1 hd (hl.2.2.2 _ _ hi) K
theorem r_lload_n {q : Fin 4} {x : Int} (hd : decode k.2.1 pc = .ok (.lload_n q, 1)) (hi : L[(q : Nat)]? = some (some (vL x))) (kk : V k R cu su (pc + 1) L (vL x :: st) u Q) : V k R cu su pc L (st) u Q := by
  intro g a p l e s m args below meth c Z C H locs ls d0 hd0 hl hH
  have K := kk g a p l e s m args below meth c Z C H locs ls d0 hd0 hl hH
  exact lv_lload_n C.1 C.2.1 hd rfl (hl.2.2.2 _ _ hi) K
theorem r_lload {i : Nat} {x : Int} (hd : decode k.2.1 pc = .ok (.lload i, 2)) (hi : L[i]? = some (some (vL x))) (kk : V k R cu su (pc + 2) L (vL x :: st) u Q) : V k R cu su pc L (st) u Q := by
  intro g a p l e s m args below meth c Z C H locs ls d0 hd0 hl hH
  have K := kk g a p l e s m args below meth c Z C H locs ls d0 hd0 hl hH
  exact lv_lload C.1 C.2.1 hd (hl.2.2.2 _ _ hi) K
theorem r_dload_n {q : Fin 4} {x : UInt64} (hd : decode k.2.1 pc = .ok (.dload_n q, 1)) (hi : L[(q : Nat)]? = some (some (vD x))) (kk : V k R cu su (pc + 1) L (vD x :: st) u Q) : V k R cu su pc L (st) u Q := by
  intro g a p l e s m args below meth c Z C H locs ls d0 hd0 hl hH
  have K := kk g a p l e s m args below meth c Z C H locs ls d0 hd0 hl hH
  exact lv_dload_n C.1 C.2.1 hd rfl (hl.2.2.2 _ _ hi) K
theorem r_dload {i : Nat} {x : UInt64} (hd : decode k.2.1 pc = .ok (.dload i, 2)) (hi : L[i]? = some (some (vD x))) (kk : V k R cu su (pc + 2) L (vD x :: st) u Q) : V k R cu su pc L (st) u Q := by
  intro g a p l e s m args below meth c Z C H locs ls d0 hd0 hl hH
  have K := kk g a p l e s m args below meth c Z C H locs ls d0 hd0 hl hH
  exact lv_dload C.1 C.2.1 hd (hl.2.2.2 _ _ hi) K
theorem r_aload_n {q : Fin 4} {x : Nat} (hd : decode k.2.1 pc = .ok (.aload_n q, 1)) (hi : L[(q : Nat)]? = some (some (vR (some x)))) (kk : V k R cu su (pc + 1) L (vR (some x) :: st) u Q) : V k R cu su pc L (st) u Q := by
  intro g a p l e s m args below meth c Z C H locs ls d0 hd0 hl hH
  have K := kk g a p l e s m args below meth c Z C H locs ls d0 hd0 hl hH
  exact lv_aload_n C.1 C.2.1 hd rfl (hl.2.2.2 _ _ hi) K
theorem r_aload {i : Nat} {x : Nat} (hd : decode k.2.1 pc = .ok (.aload i, 2)) (hi : L[i]? = some (some (vR (some x)))) (kk : V k R cu su (pc + 2) L (vR (some x) :: st) u Q) : V k R cu su pc L (st) u Q := by
  intro g a p l e s m args below meth c Z C H locs ls d0 hd0 hl hH
  have K := kk g a p l e s m args below meth c Z C H locs ls d0 hd0 hl hH
  exact lv_aload C.1 C.2.1 hd (hl.2.2.2 _ _ hi) K
theorem r_aload_nN {q : Fin 4} (hd : decode k.2.1 pc = .ok (.aload_n q, 1)) (hi : L[(q : Nat)]? = some (some (vR none))) (kk : V k R cu su (pc + 1) L (vR none :: st) u Q) : V k R cu su pc L (st) u Q := by
  intro g a p l e s m args below meth c Z C H locs ls d0 hd0 hl hH
  have K := kk g a p l e s m args below meth c Z C H locs ls d0 hd0 hl hH
  exact lv_aload_nN C.1 C.2.1 hd rfl (hl.2.2.2 _ _ hi) K
theorem r_aloadN {i : Nat} (hd : decode k.2.1 pc = .ok (.aload i, 2)) (hi : L[i]? = some (some (vR none))) (kk : V k R cu su (pc + 2) L (vR none :: st) u Q) : V k R cu su pc L (st) u Q := by
  intro g a p l e s m args below meth c Z C H locs ls d0 hd0 hl hH
  have K := kk g a p l e s m args below meth c Z C H locs ls d0 hd0 hl hH
  exact lv_aloadN C.1 C.2.1 hd (hl.2.2.2 _ _ hi) K
theorem r_dup {v : AV} (hd : decode k.2.1 pc = .ok (.dup, 1)) (hc : ct v = 1) (kk : V k R cu su (pc + 1) L (v :: v :: st) u Q) : V k R cu su pc L (v :: st) u Q := by
  intro g a p l e s m args below meth c Z C H locs ls d0 hd0 hl hH
  have K := kk g a p l e s m args below meth c Z C H locs ls d0 hd0 hl hH
  exact lv_dup C.1 C.2.1 hd ((dn_cat a v).trans hc) K
theorem r_pop {v : AV} (hd : decode k.2.1 pc = .ok (.pop, 1)) (hc : ct v = 1) (kk : V k R cu su (pc + 1) L (st) u Q) : V k R cu su pc L (v :: st) u Q := by
  intro g a p l e s m args below meth c Z C H locs ls d0 hd0 hl hH
  have K := kk g a p l e s m args below meth c Z C H locs ls d0 hd0 hl hH
  exact lv_pop C.1 C.2.1 hd ((dn_cat a v).trans hc) K
theorem r_dup2_11 {v w : AV} (hd : decode k.2.1 pc = .ok (.dup2, 1)) (hc : ct v = 1) (hc2 : ct w = 1) (kk : V k R cu su (pc + 1) L (v :: w :: v :: w :: st) u Q) : V k R cu su pc L (v :: w :: st) u Q := by
  intro g a p l e s m args below meth c Z C H locs ls d0 hd0 hl hH
  have K := kk g a p l e s m args below meth c Z C H locs ls d0 hd0 hl hH
  exact lv_dup2_11 C.1 C.2.1 hd ((dn_cat a v).trans hc) ((dn_cat a w).trans hc2) K
theorem r_ifeq {x : Int} {off : Int} {tgt : Nat} (hd : decode k.2.1 pc = .ok (.ifCond .eq off, 3)) (ht : (pc : Int) + off = (tgt : Int)) (hx : R32 x) (kt : x = 0 → V k R cu su tgt L st u Q) (kf : ¬ x = 0 → V k R cu su (pc + 3) L st u Q) : V k R cu su pc L (vI x :: st) u Q := by
  intro g a p l e s m args below meth c Z C H locs ls d0 hd0 hl hH
  have E := zi_eq hx z0r
  refine lv_if_eq C.1 C.2.1 hd ht (fun h => ?_) (fun h => ?_)
  · exact kt (by revert h; first | exact fun h => E.mp h | exact fun h => fun h2 => h (E.mpr h2) | exact fun h => fun h2 => absurd (E.mpr h2) (by first | exact Int32.not_lt.mpr h | exact h)) g a p l e s m args below meth c Z C H locs ls d0 hd0 hl hH
  · exact kf (by revert h; first | exact fun h => fun h2 => h (E.mpr h2) | exact fun h => E.mp h | exact fun h => E.mp (Classical.not_not.mp h) | exact fun h => E.mp (Int32.not_le.mp h)) g a p l e s m args below meth c Z C H locs ls d0 hd0 hl hH
theorem r_icmpeq {x y : Int} {off : Int} {tgt : Nat} (hd : decode k.2.1 pc = .ok (.if_icmp .eq off, 3)) (ht : (pc : Int) + off = (tgt : Int)) (hx : R32 x) (hy : R32 y) (kt : x = y → V k R cu su tgt L st u Q) (kf : ¬ x = y → V k R cu su (pc + 3) L st u Q) : V k R cu su pc L (vI y :: vI x :: st) u Q := by
  intro g a p l e s m args below meth c Z C H locs ls d0 hd0 hl hH
  have E := zi_eq hx hy
  refine lv_icmp_eq C.1 C.2.1 hd ht (fun h => ?_) (fun h => ?_)
  · exact kt (by revert h; first | exact fun h => E.mp h | exact fun h => fun h2 => h (E.mpr h2) | exact fun h => fun h2 => absurd (E.mpr h2) (by first | exact Int32.not_lt.mpr h | exact h)) g a p l e s m args below meth c Z C H locs ls d0 hd0 hl hH
  · exact kf (by revert h; first | exact fun h => fun h2 => h (E.mpr h2) | exact fun h => E.mp h | exact fun h => E.mp (Classical.not_not.mp h) | exact fun h => E.mp (Int32.not_le.mp h)) g a p l e s m args below meth c Z C H locs ls d0 hd0 hl hH
theorem r_ifne {x : Int} {off : Int} {tgt : Nat} (hd : decode k.2.1 pc = .ok (.ifCond .ne off, 3)) (ht : (pc : Int) + off = (tgt : Int)) (hx : R32 x) (kt : ¬ x = 0 → V k R cu su tgt L st u Q) (kf : x = 0 → V k R cu su (pc + 3) L st u Q) : V k R cu su pc L (vI x :: st) u Q := by
  intro g a p l e s m args below meth c Z C H locs ls d0 hd0 hl hH
  have E := zi_eq hx z0r
  refine lv_if_ne C.1 C.2.1 hd ht (fun h => ?_) (fun h => ?_)
  · exact kt (by revert h; first | exact fun h => E.mp h | exact fun h => fun h2 => h (E.mpr h2) | exact fun h => fun h2 => absurd (E.mpr h2) (by first | exact Int32.not_lt.mpr h | exact h)) g a p l e s m args below meth c Z C H locs ls d0 hd0 hl hH
  · exact kf (by revert h; first | exact fun h => fun h2 => h (E.mpr h2) | exact fun h => E.mp h | exact fun h => E.mp (Classical.not_not.mp h) | exact fun h => E.mp (Int32.not_le.mp h)) g a p l e s m args below meth c Z C H locs ls d0 hd0 hl hH
theorem r_icmpne {x y : Int} {off : Int} {tgt : Nat} (hd : decode k.2.1 pc = .ok (.if_icmp .ne off, 3)) (ht : (pc : Int) + off = (tgt : Int)) (hx : R32 x) (hy : R32 y) (kt : ¬ x = y → V k R cu su tgt L st u Q) (kf : x = y → V k R cu su (pc + 3) L st u Q) : V k R cu su pc L (vI y :: vI x :: st) u Q := by
  intro g a p l e s m args below meth c Z C H locs ls d0 hd0 hl hH
  have E := zi_eq hx hy
  refine lv_icmp_ne C.1 C.2.1 hd ht (fun h => ?_) (fun h => ?_)
  · exact kt (by revert h; first | exact fun h => E.mp h | exact fun h => fun h2 => h (E.mpr h2) | exact fun h => fun h2 => absurd (E.mpr h2) (by first | exact Int32.not_lt.mpr h | exact h)) g a p l e s m args below meth c Z C H locs ls d0 hd0 hl hH
  · exact kf (by revert h; first | exact fun h => fun h2 => h (E.mpr h2) | exact fun h => E.mp h | exact fun h => E.mp (Classical.not_not.mp h) | exact fun h => E.mp (Int32.not_le.mp h)) g a p l e s m args below meth c Z C H locs ls d0 hd0 hl hH
theorem r_iflt {x : Int} {off : Int} {tgt : Nat} (hd : decode k.2.1 pc = .ok (.ifCond .lt off, 3)) (ht : (pc : Int) + off = (tgt : Int)) (hx : R32 x) (kt : x < 0 → V k R cu su tgt L st u Q) (kf : ¬ x < 0 → V k R cu su (pc + 3) L st u Q) : V k R cu su pc L (vI x :: st) u Q := by
  intro g a p l e s m args below meth c Z C H locs ls d0 hd0 hl hH
  have E := zi_lt hx z0r
  refine lv_if_lt C.1 C.2.1 hd ht (fun h => ?_) (fun h => ?_)
  · exact kt (by revert h; first | exact fun h => E.mp h | exact fun h => fun h2 => h (E.mpr h2) | exact fun h => fun h2 => absurd (E.mpr h2) (by first | exact Int32.not_lt.mpr h | exact h)) g a p l e s m args below meth c Z C H locs ls d0 hd0 hl hH
  · exact kf (by revert h; first | exact fun h => fun h2 => h (E.mpr h2) | exact fun h => E.mp h | exact fun h => E.mp (Classical.not_not.mp h) | exact fun h => E.mp (Int32.not_le.mp h)) g a p l e s m args below meth c Z C H locs ls d0 hd0 hl hH
theorem r_icmplt {x y : Int} {off : Int} {tgt : Nat} (hd : decode k.2.1 pc = .ok (.if_icmp .lt off, 3)) (ht : (pc : Int) + off = (tgt : Int)) (hx : R32 x) (hy : R32 y) (kt : x < y → V k R cu su tgt L st u Q) (kf : ¬ x < y → V k R cu su (pc + 3) L st u Q) : V k R cu su pc L (vI y :: vI x :: st) u Q := by
  intro g a p l e s m args below meth c Z C H locs ls d0 hd0 hl hH
  have E := zi_lt hx hy
  refine lv_icmp_lt C.1 C.2.1 hd ht (fun h => ?_) (fun h => ?_)
  · exact kt (by revert h; first | exact fun h => E.mp h | exact fun h => fun h2 => h (E.mpr h2) | exact fun h => fun h2 => absurd (E.mpr h2) (by first | exact Int32.not_lt.mpr h | exact h)) g a p l e s m args below meth c Z C H locs ls d0 hd0 hl hH
  · exact kf (by revert h; first | exact fun h => fun h2 => h (E.mpr h2) | exact fun h => E.mp h | exact fun h => E.mp (Classical.not_not.mp h) | exact fun h => E.mp (Int32.not_le.mp h)) g a p l e s m args below meth c Z C H locs ls d0 hd0 hl hH
theorem r_ifge {x : Int} {off : Int} {tgt : Nat} (hd : decode k.2.1 pc = .ok (.ifCond .ge off, 3)) (ht : (pc : Int) + off = (tgt : Int)) (hx : R32 x) (kt : ¬ x < 0 → V k R cu su tgt L st u Q) (kf : x < 0 → V k R cu su (pc + 3) L st u Q) : V k R cu su pc L (vI x :: st) u Q := by
  intro g a p l e s m args below meth c Z C H locs ls d0 hd0 hl hH
  have E := zi_lt hx z0r
  refine lv_if_ge C.1 C.2.1 hd ht (fun h => ?_) (fun h => ?_)
  · exact kt (by revert h; first | exact fun h => E.mp h | exact fun h => fun h2 => h (E.mpr h2) | exact fun h => fun h2 => absurd (E.mpr h2) (by first | exact Int32.not_lt.mpr h | exact h)) g a p l e s m args below meth c Z C H locs ls d0 hd0 hl hH
  · exact kf (by revert h; first | exact fun h => fun h2 => h (E.mpr h2) | exact fun h => E.mp h | exact fun h => E.mp (Classical.not_not.mp h) | exact fun h => E.mp (Int32.not_le.mp h)) g a p l e s m args below meth c Z C H locs ls d0 hd0 hl hH
theorem r_icmpge {x y : Int} {off : Int} {tgt : Nat} (hd : decode k.2.1 pc = .ok (.if_icmp .ge off, 3)) (ht : (pc : Int) + off = (tgt : Int)) (hx : R32 x) (hy : R32 y) (kt : ¬ x < y → V k R cu su tgt L st u Q) (kf : x < y → V k R cu su (pc + 3) L st u Q) : V k R cu su pc L (vI y :: vI x :: st) u Q := by
  intro g a p l e s m args below meth c Z C H locs ls d0 hd0 hl hH
  have E := zi_lt hx hy
  refine lv_icmp_ge C.1 C.2.1 hd ht (fun h => ?_) (fun h => ?_)
  · exact kt (by revert h; first | exact fun h => E.mp h | exact fun h => fun h2 => h (E.mpr h2) | exact fun h => fun h2 => absurd (E.mpr h2) (by first | exact Int32.not_lt.mpr h | exact h)) g a p l e s m args below meth c Z C H locs ls d0 hd0 hl hH
  · exact kf (by revert h; first | exact fun h => fun h2 => h (E.mpr h2) | exact fun h => E.mp h | exact fun h => E.mp (Classical.not_not.mp h) | exact fun h => E.mp (Int32.not_le.mp h)) g a p l e s m args below meth c Z C H locs ls d0 hd0 hl hH
theorem r_ifgt {x : Int} {off : Int} {tgt : Nat} (hd : decode k.2.1 pc = .ok (.ifCond .gt off, 3)) (ht : (pc : Int) + off = (tgt : Int)) (hx : R32 x) (kt : 0 < x → V k R cu su tgt L st u Q) (kf : ¬ 0 < x → V k R cu su (pc + 3) L st u Q) : V k R cu su pc L (vI x :: st) u Q := by
  intro g a p l e s m args below meth c Z C H locs ls d0 hd0 hl hH
  have E := zi_lt z0r hx
  refine lv_if_gt C.1 C.2.1 hd ht (fun h => ?_) (fun h => ?_)
  · exact kt (by revert h; first | exact fun h => E.mp h | exact fun h => fun h2 => h (E.mpr h2) | exact fun h => fun h2 => absurd (E.mpr h2) (by first | exact Int32.not_lt.mpr h | exact h)) g a p l e s m args below meth c Z C H locs ls d0 hd0 hl hH
  · exact kf (by revert h; first | exact fun h => fun h2 => h (E.mpr h2) | exact fun h => E.mp h | exact fun h => E.mp (Classical.not_not.mp h) | exact fun h => E.mp (Int32.not_le.mp h)) g a p l e s m args below meth c Z C H locs ls d0 hd0 hl hH
theorem r_icmpgt {x y : Int} {off : Int} {tgt : Nat} (hd : decode k.2.1 pc = .ok (.if_icmp .gt off, 3)) (ht : (pc : Int) + off = (tgt : Int)) (hx : R32 x) (hy : R32 y) (kt : y < x → V k R cu su tgt L st u Q) (kf : ¬ y < x → V k R cu su (pc + 3) L st u Q) : V k R cu su pc L (vI y :: vI x :: st) u Q := by
  intro g a p l e s m args below meth c Z C H locs ls d0 hd0 hl hH
  have E := zi_lt hy hx
  refine lv_icmp_gt C.1 C.2.1 hd ht (fun h => ?_) (fun h => ?_)
  · exact kt (by revert h; first | exact fun h => E.mp h | exact fun h => fun h2 => h (E.mpr h2) | exact fun h => fun h2 => absurd (E.mpr h2) (by first | exact Int32.not_lt.mpr h | exact h)) g a p l e s m args below meth c Z C H locs ls d0 hd0 hl hH
  · exact kf (by revert h; first | exact fun h => fun h2 => h (E.mpr h2) | exact fun h => E.mp h | exact fun h => E.mp (Classical.not_not.mp h) | exact fun h => E.mp (Int32.not_le.mp h)) g a p l e s m args below meth c Z C H locs ls d0 hd0 hl hH
theorem r_ifle {x : Int} {off : Int} {tgt : Nat} (hd : decode k.2.1 pc = .ok (.ifCond .le off, 3)) (ht : (pc : Int) + off = (tgt : Int)) (hx : R32 x) (kt : ¬ 0 < x → V k R cu su tgt L st u Q) (kf : 0 < x → V k R cu su (pc + 3) L st u Q) : V k R cu su pc L (vI x :: st) u Q := by
  intro g a p l e s m args below meth c Z C H locs ls d0 hd0 hl hH
  have E := zi_lt z0r hx
  refine lv_if_le C.1 C.2.1 hd ht (fun h => ?_) (fun h => ?_)
  · exact kt (by revert h; first | exact fun h => E.mp h | exact fun h => fun h2 => h (E.mpr h2) | exact fun h => fun h2 => absurd (E.mpr h2) (by first | exact Int32.not_lt.mpr h | exact h)) g a p l e s m args below meth c Z C H locs ls d0 hd0 hl hH
  · exact kf (by revert h; first | exact fun h => fun h2 => h (E.mpr h2) | exact fun h => E.mp h | exact fun h => E.mp (Classical.not_not.mp h) | exact fun h => E.mp (Int32.not_le.mp h)) g a p l e s m args below meth c Z C H locs ls d0 hd0 hl hH
theorem r_icmple {x y : Int} {off : Int} {tgt : Nat} (hd : decode k.2.1 pc = .ok (.if_icmp .le off, 3)) (ht : (pc : Int) + off = (tgt : Int)) (hx : R32 x) (hy : R32 y) (kt : ¬ y < x → V k R cu su tgt L st u Q) (kf : y < x → V k R cu su (pc + 3) L st u Q) : V k R cu su pc L (vI y :: vI x :: st) u Q := by
  intro g a p l e s m args below meth c Z C H locs ls d0 hd0 hl hH
  have E := zi_lt hy hx
  refine lv_icmp_le C.1 C.2.1 hd ht (fun h => ?_) (fun h => ?_)
  · exact kt (by revert h; first | exact fun h => E.mp h | exact fun h => fun h2 => h (E.mpr h2) | exact fun h => fun h2 => absurd (E.mpr h2) (by first | exact Int32.not_lt.mpr h | exact h)) g a p l e s m args below meth c Z C H locs ls d0 hd0 hl hH
  · exact kf (by revert h; first | exact fun h => fun h2 => h (E.mpr h2) | exact fun h => E.mp h | exact fun h => E.mp (Classical.not_not.mp h) | exact fun h => E.mp (Int32.not_le.mp h)) g a p l e s m args below meth c Z C H locs ls d0 hd0 hl hH
theorem r_goto {off : Int} {tgt : Nat} (hd : decode k.2.1 pc = .ok (.goto off, 3)) (ht : (pc : Int) + off = (tgt : Int)) (kk : V k R cu su tgt L st u Q) : V k R cu su pc L (st) u Q := by
  intro g a p l e s m args below meth c Z C H locs ls d0 hd0 hl hH
  have K := kk g a p l e s m args below meth c Z C H locs ls d0 hd0 hl hH
  exact lv_goto C.1 C.2.1 hd ht K
theorem r_ifnull_s {off : Int} {x : Nat} (hd : decode k.2.1 pc = .ok (.ifnull off, 3)) (kk : V k R cu su (pc + 3) L (st) u Q) : V k R cu su pc L (vR (some x) :: st) u Q := by
  intro g a p l e s m args below meth c Z C H locs ls d0 hd0 hl hH
  have K := kk g a p l e s m args below meth c Z C H locs ls d0 hd0 hl hH
  exact lv_ifnull C.1 C.2.1 hd K
theorem r_ifnull_n {off : Int} {tgt : Nat} (hd : decode k.2.1 pc = .ok (.ifnull off, 3)) (ht : (pc : Int) + off = (tgt : Int)) (kk : V k R cu su tgt L st u Q) : V k R cu su pc L (vR none :: st) u Q := by
  intro g a p l e s m args below meth c Z C H locs ls d0 hd0 hl hH
  have K := kk g a p l e s m args below meth c Z C H locs ls d0 hd0 hl hH
  exact lv_ifnullN C.1 C.2.1 hd ht K
theorem r_ifnonnull_s {off : Int} {tgt x : Nat} (hd : decode k.2.1 pc = .ok (.ifnonnull off, 3)) (ht : (pc : Int) + off = (tgt : Int)) (kk : V k R cu su tgt L st u Q) : V k R cu su pc L (vR (some x) :: st) u Q := by
  intro g a p l e s m args below meth c Z C H locs ls d0 hd0 hl hH
  have K := kk g a p l e s m args below meth c Z C H locs ls d0 hd0 hl hH
  exact lv_ifnonnull C.1 C.2.1 hd ht K
theorem r_ifnonnull_n {off : Int} (hd : decode k.2.1 pc = .ok (.ifnonnull off, 3)) (kk : V k R cu su (pc + 3) L (st) u Q) : V k R cu su pc L (vR none :: st) u Q := by
  intro g a p l e s m args below meth c Z C H locs ls d0 hd0 hl hH
  have K := kk g a p l e s m args below meth c Z C H locs ls d0 hd0 hl hH
  exact lv_ifnonnullN C.1 C.2.1 hd K
theorem r_tableIn {dflt lo hi off x : Int} {offs : Array Int} {len tgt : Nat} (hd : decode k.2.1 pc = .ok (.tableswitch dflt lo hi offs, len)) (hx : R32 x) (h1 : ¬ x < lo) (h2 : ¬ hi < x) (ho : offs[(x - lo).toNat]? = some off) (ht : (pc : Int) + off = (tgt : Int)) (kk : V k R cu su tgt L st u Q) : V k R cu su pc L (vI x :: st) u Q := by
  intro g a p l e s m args below meth c Z C H locs ls d0 hd0 hl hH
  have K := kk g a p l e s m args below meth c Z C H locs ls d0 hd0 hl hH
  exact lv_tableIn C.1 C.2.1 hd (by rw [zi_ti hx]; exact h1) (by rw [zi_ti hx]; exact h2) (by rw [zi_ti hx]; exact ho) ht K
theorem r_tableOut {dflt lo hi x : Int} {offs : Array Int} {len tgt : Nat} (hd : decode k.2.1 pc = .ok (.tableswitch dflt lo hi offs, len)) (hx : R32 x) (h : x < lo ∨ hi < x) (ht : (pc : Int) + dflt = (tgt : Int)) (kk : V k R cu su tgt L st u Q) : V k R cu su pc L (vI x :: st) u Q := by
  intro g a p l e s m args below meth c Z C H locs ls d0 hd0 hl hH
  have K := kk g a p l e s m args below meth c Z C H locs ls d0 hd0 hl hH
  exact lv_tableOut C.1 C.2.1 hd (by rw [zi_ti hx]; exact h) ht K
theorem r_i2f {x : Int} (hd : decode k.2.1 pc = .ok (.i2f, 1)) (kk : V k R cu su (pc + 1) L (vF (FP.i2f (Int32.ofInt x)) :: st) u Q) : V k R cu su pc L (vI x :: st) u Q := by
  intro g a p l e s m args below meth c Z C H locs ls d0 hd0 hl hH
  have K := kk g a p l e s m args below meth c Z C H locs ls d0 hd0 hl hH
  exact lv_i2f C.1 C.2.1 hd K
theorem r_i2d {x : Int} (hd : decode k.2.1 pc = .ok (.i2d, 1)) (kk : V k R cu su (pc + 1) L (vD (FP.i2d (Int32.ofInt x)) :: st) u Q) : V k R cu su pc L (vI x :: st) u Q := by
  intro g a p l e s m args below meth c Z C H locs ls d0 hd0 hl hH
  have K := kk g a p l e s m args below meth c Z C H locs ls d0 hd0 hl hH
  exact lv_i2d C.1 C.2.1 hd K
theorem r_l2d {x : Int} (hd : decode k.2.1 pc = .ok (.l2d, 1)) (kk : V k R cu su (pc + 1) L (vD (FP.l2d (Int64.ofInt x)) :: st) u Q) : V k R cu su pc L (vL x :: st) u Q := by
  intro g a p l e s m args below meth c Z C H locs ls d0 hd0 hl hH
  have K := kk g a p l e s m args below meth c Z C H locs ls d0 hd0 hl hH
  exact lv_l2d C.1 C.2.1 hd K
theorem r_fdiv {x y : UInt32} (hd : decode k.2.1 pc = .ok (.fdiv, 1)) (kk : ∀ r : UInt32, alike32 r (FP.fdiv x y) = true → V k R cu su (pc + 1) L (vF r :: st) u Q) : V k R cu su pc L (vF y :: vF x :: st) u Q := by
  intro g a p l e s m args below meth c Z C H locs ls d0 hd0 hl hH
  exact lv_fdiv_any hd0 lw_bits C.1 C.2.1 hd (fun r d1 hal hd1 => kk r hal g a p l e s m args below meth c Z C H locs ls d1 hd1 hl hH)
theorem r_ddiv {x y : UInt64} (hd : decode k.2.1 pc = .ok (.ddiv, 1)) (kk : ∀ r : UInt64, alike64 r (FP.ddiv x y) = true → V k R cu su (pc + 1) L (vD r :: st) u Q) : V k R cu su pc L (vD y :: vD x :: st) u Q := by
  intro g a p l e s m args below meth c Z C H locs ls d0 hd0 hl hH
  exact lv_ddiv_any hd0 lw_bits C.1 C.2.1 hd (fun r d1 hal hd1 => kk r hal g a p l e s m args below meth c Z C H locs ls d1 hd1 hl hH)
theorem r_dmul {x y : UInt64} (hd : decode k.2.1 pc = .ok (.dmul, 1)) (kk : ∀ r : UInt64, alike64 r (FP.dmul x y) = true → V k R cu su (pc + 1) L (vD r :: st) u Q) : V k R cu su pc L (vD y :: vD x :: st) u Q := by
  intro g a p l e s m args below meth c Z C H locs ls d0 hd0 hl hH
  exact lv_dmul_any hd0 lw_bits C.1 C.2.1 hd (fun r d1 hal hd1 => kk r hal g a p l e s m args below meth c Z C H locs ls d1 hd1 hl hH)
theorem r_f2d {x : UInt32} (hd : decode k.2.1 pc = .ok (.f2d, 1)) (kk : ∀ r : UInt64, alike64 r (FP.f2d x) = true → V k R cu su (pc + 1) L (vD r :: st) u Q) : V k R cu su pc L (vF x :: st) u Q := by
  intro g a p l e s m args below meth c Z C H locs ls d0 hd0 hl hH
  exact lv_f2d_any hd0 lw_bits C.1 C.2.1 hd (fun r d1 hal hd1 => kk r hal g a p l e s m args below meth c Z C H locs ls d1 hd1 hl hH)
end
def nlo : Option AV → Bool
  | some v => ct v == 1
  | none => true
section
variable {k : MT} {R : Room} {cu su pc : Nat} {st : List AV} {u : GW} {Q : Option AV → GW → Prop}
theorem g_istore_n {q : Fin 4} {x : Int} {L : List (Option AV)} (hd : decode k.2.1 pc = .ok (.istore_n q, 1)) (hi : (q : Nat) < L.length) (hp : pok L (q : Nat)) (kk : V k R cu su (pc + 1) (L.set (q : Nat) (some (vI x))) st u Q) : V k R cu su pc L (vI x :: st) u Q := by
  intro g a p l e s m args below meth c Z C H locs ls d0 hd0 hl hH
  have hn : (q : Nat) < k.2.2.1 := by rw [← hl.1]; exact hi
  exact lv_istore_n C.1 C.2.1 hd rfl hl.has hn rfl (fun ls2 h2 => kk g a p l e s m args below meth c Z C H locs ls2 d0 hd0 (lm.st1 (v := vI x) hl.1 hp hn h2) hH)
theorem g_istore {i : Nat} {x : Int} {L : List (Option AV)} (hd : decode k.2.1 pc = .ok (.istore i, 2)) (hi : i < L.length) (hp : pok L i) (kk : V k R cu su (pc + 2) (L.set i (some (vI x))) st u Q) : V k R cu su pc L (vI x :: st) u Q := by
  intro g a p l e s m args below meth c Z C H locs ls d0 hd0 hl hH
  have hn : i < k.2.2.1 := by rw [← hl.1]; exact hi
  exact lv_istore C.1 C.2.1 hd hl.has hn rfl (fun ls2 h2 => kk g a p l e s m args below meth c Z C H locs ls2 d0 hd0 (lm.st1 (v := vI x) hl.1 hp hn h2) hH)
theorem g_lstore_n {q : Fin 4} {x : Int} {L : List (Option AV)} (hd : decode k.2.1 pc = .ok (.lstore_n q, 1)) (hi : (q : Nat) + 1 < L.length) (hp : pok L (q : Nat)) (kk : V k R cu su (pc + 1) ((L.set (q : Nat) (some (vL x))).set ((q : Nat) + 1) none) st u Q) : V k R cu su pc L (vL x :: st) u Q := by
  intro g a p l e s m args below meth c Z C H locs ls d0 hd0 hl hH
  have hn : (q : Nat) + 1 < k.2.2.1 := by rw [← hl.1]; exact hi
  exact lv_lstore_n C.1 C.2.1 hd rfl hl.has hn rfl (fun ls2 h2 => kk g a p l e s m args below meth c Z C H locs ls2 d0 hd0 (lm.st2 (v := vL x) hl.1 hp hn h2) hH)
theorem g_lstore {i : Nat} {x : Int} {L : List (Option AV)} (hd : decode k.2.1 pc = .ok (.lstore i, 2)) (hi : i + 1 < L.length) (hp : pok L i) (kk : V k R cu su (pc + 2) ((L.set i (some (vL x))).set (i + 1) none) st u Q) : V k R cu su pc L (vL x :: st) u Q := by
  intro g a p l e s m args below meth c Z C H locs ls d0 hd0 hl hH
  have hn : i + 1 < k.2.2.1 := by rw [← hl.1]; exact hi
  exact lv_lstore C.1 C.2.1 hd hl.has hn rfl (fun ls2 h2 => kk g a p l e s m args below meth c Z C H locs ls2 d0 hd0 (lm.st2 (v := vL x) hl.1 hp hn h2) hH)
theorem g_dstore_n {q : Fin 4} {x : UInt64} {L : List (Option AV)} (hd : decode k.2.1 pc = .ok (.dstore_n q, 1)) (hi : (q : Nat) + 1 < L.length) (hp : pok L (q : Nat)) (kk : V k R cu su (pc + 1) ((L.set (q : Nat) (some (vD x))).set ((q : Nat) + 1) none) st u Q) : V k R cu su pc L (vD x :: st) u Q := by
  intro g a p l e s m args below meth c Z C H locs ls d0 hd0 hl hH
  have hn : (q : Nat) + 1 < k.2.2.1 := by rw [← hl.1]; exact hi
  exact lv_dstore_n C.1 C.2.1 hd rfl hl.has hn rfl (fun ls2 h2 => kk g a p l e s m args below meth c Z C H locs ls2 d0 hd0 (lm.st2 (v := vD x) hl.1 hp hn h2) hH)
theorem g_dstore {i : Nat} {x : UInt64} {L : List (Option AV)} (hd : decode k.2.1 pc = .ok (.dstore i, 2)) (hi : i + 1 < L.length) (hp : pok L i) (kk : V k R cu su (pc + 2) ((L.set i (some (vD x))).set (i + 1) none) st u Q) : V k R cu su pc L (vD x :: st) u Q := by
  intro g a p l e s m args below meth c Z C H locs ls d0 hd0 hl hH
  have hn : i + 1 < k.2.2.1 := by rw [← hl.1]; exact hi
  exact lv_dstore C.1 C.2.1 hd hl.has hn rfl (fun ls2 h2 => kk g a p l e s m args below meth c Z C H locs ls2 d0 hd0 (lm.st2 (v := vD x) hl.1 hp hn h2) hH)
theorem g_astore_n {q : Fin 4} {x : Nat} {L : List (Option AV)} (hd : decode k.2.1 pc = .ok (.astore_n q, 1)) (hi : (q : Nat) < L.length) (hp : pok L (q : Nat)) (kk : V k R cu su (pc + 1) (L.set (q : Nat) (some (vR (some x)))) st u Q) : V k R cu su pc L (vR (some x) :: st) u Q := by
  intro g a p l e s m args below meth c Z C H locs ls d0 hd0 hl hH
  have hn : (q : Nat) < k.2.2.1 := by rw [← hl.1]; exact hi
  exact lv_astore_n C.1 C.2.1 hd rfl hl.has hn rfl (fun ls2 h2 => kk g a p l e s m args below meth c Z C H locs ls2 d0 hd0 (lm.st1 (v := vR (some x)) hl.1 hp hn h2) hH)
theorem g_astore {i : Nat} {x : Nat} {L : List (Option AV)} (hd : decode k.2.1 pc = .ok (.astore i, 2)) (hi : i < L.length) (hp : pok L i) (kk : V k R cu su (pc + 2) (L.set i (some (vR (some x)))) st u Q) : V k R cu su pc L (vR (some x) :: st) u Q := by
  intro g a p l e s m args below meth c Z C H locs ls d0 hd0 hl hH
  have hn : i < k.2.2.1 := by rw [← hl.1]; exact hi
  exact lv_astore C.1 C.2.1 hd hl.has hn rfl (fun ls2 h2 => kk g a p l e s m args below meth c Z C H locs ls2 d0 hd0 (lm.st1 (v := vR (some x)) hl.1 hp hn h2) hH)
theorem g_astoreN_n {q : Fin 4} {L : List (Option AV)} (hd : decode k.2.1 pc = .ok (.astore_n q, 1)) (hi : (q : Nat) < L.length) (hp : pok L (q : Nat)) (kk : V k R cu su (pc + 1) (L.set (q : Nat) (some (vR none))) st u Q) : V k R cu su pc L (vR none :: st) u Q := by
  intro g a p l e s m args below meth c Z C H locs ls d0 hd0 hl hH
  have hn : (q : Nat) < k.2.2.1 := by rw [← hl.1]; exact hi
  exact lv_astore_nN C.1 C.2.1 hd rfl hl.has hn rfl (fun ls2 h2 => kk g a p l e s m args below meth c Z C H locs ls2 d0 hd0 (lm.st1 (v := vR none) hl.1 hp hn h2) hH)
theorem g_astoreN {i : Nat} {L : List (Option AV)} (hd : decode k.2.1 pc = .ok (.astore i, 2)) (hi : i < L.length) (hp : pok L i) (kk : V k R cu su (pc + 2) (L.set i (some (vR none))) st u Q) : V k R cu su pc L (vR none :: st) u Q := by
  intro g a p l e s m args below meth c Z C H locs ls d0 hd0 hl hH
  have hn : i < k.2.2.1 := by rw [← hl.1]; exact hi
  exact lv_astoreN C.1 C.2.1 hd hl.has hn rfl (fun ls2 h2 => kk g a p l e s m args below meth c Z C H locs ls2 d0 hd0 (lm.st1 (v := vR none) hl.1 hp hn h2) hH)
theorem g_iinc {i : Nat} {n x : Int} {L : List (Option AV)} (hd : decode k.2.1 pc = .ok (.iinc i n, 3)) (hi : L[i]? = some (some (vI x))) (hp : pok L i) (kk : V k R cu su (pc + 3) (L.set i (some (vI (x + n)))) st u Q) : V k R cu su pc L st u Q := by
  intro g a p l e s m args below meth c Z C H locs ls d0 hd0 hl hH
  have hn : i < k.2.2.1 := by rw [← hl.1]; exact (List.getElem?_eq_some_iff.mp hi).1
  have hm : (i, dn a (vI x)) ∈ asc a 0 L := by simpa using asc_in (a := a) (i := 0) hi
  obtain ⟨q, hq⟩ := List.getElem?_of_mem hm
  exact lv_iinc (v := Int32.ofInt (x + n)) C.1 C.2.1 hd hl.has hq (zi_add x n) hn rfl (fun ls2 h2 => kk g a p l e s m args below meth c Z C H locs ls2 d0 hd0 (lm.st1 (v := vI (x + n)) hl.1 hp hn h2) hH)
theorem pok0 {L : List (Option AV)} : pok L 0 := fun j v h => absurd h (Nat.succ_ne_zero j)
theorem pokS {L : List (Option AV)} {i : Nat} {l : Option AV} (h : L[i]? = some l) (hc : nlo l = true) : pok L (i + 1) := by
  intro j v hj hv
  have e : j = i := by omega
  subst e
  rw [h] at hv
  obtain rfl := Option.some.inj hv
  simpa [nlo] using hc
theorem r_istore0 {l0 : Option AV} {r : List (Option AV)} {x : Int} (hd : decode k.2.1 pc = .ok (.istore_n 0, 1)) (kk : V k R cu su (pc + 1) (some (vI x) :: r) st u Q) : V k R cu su pc (l0 :: r) (vI x :: st) u Q :=
  g_istore_n (q := 0) hd (by show (0 : Nat) < _; simp) pok0 kk
theorem r_astore0 {l0 : Option AV} {r : List (Option AV)} {x : Nat} (hd : decode k.2.1 pc = .ok (.astore_n 0, 1)) (kk : V k R cu su (pc + 1) (some (vR (some x)) :: r) st u Q) : V k R cu su pc (l0 :: r) (vR (some x) :: st) u Q :=
  g_astore_n (q := 0) hd (by show (0 : Nat) < _; simp) pok0 kk
theorem r_astoreN0 {l0 : Option AV} {r : List (Option AV)} (hd : decode k.2.1 pc = .ok (.astore_n 0, 1)) (kk : V k R cu su (pc + 1) (some (vR none) :: r) st u Q) : V k R cu su pc (l0 :: r) (vR none :: st) u Q :=
  g_astoreN_n (q := 0) hd (by show (0 : Nat) < _; simp) pok0 kk
theorem r_iinc0 {lz : Option AV} {r : List (Option AV)} {x n : Int} (hd : decode k.2.1 pc = .ok (.iinc 0 n, 3)) (kk : V k R cu su (pc + 3) (some (vI (x + n)) :: r) st u Q) : V k R cu su pc (some (vI x) :: r) st u Q :=
  g_iinc (x := x) hd rfl pok0 kk
theorem r_lstore0 {l0 l1 : Option AV} {r : List (Option AV)} {x : Int} (hd : decode k.2.1 pc = .ok (.lstore_n 0, 1)) (kk : V k R cu su (pc + 1) (some (vL x) :: none :: r) st u Q) : V k R cu su pc (l0 :: l1 :: r) (vL x :: st) u Q :=
  g_lstore_n (q := 0) hd (by show (1 : Nat) < _; simp) pok0 kk
theorem r_dstore0 {l0 l1 : Option AV} {r : List (Option AV)} {x : UInt64} (hd : decode k.2.1 pc = .ok (.dstore_n 0, 1)) (kk : V k R cu su (pc + 1) (some (vD x) :: none :: r) st u Q) : V k R cu su pc (l0 :: l1 :: r) (vD x :: st) u Q :=
  g_dstore_n (q := 0) hd (by show (1 : Nat) < _; simp) pok0 kk
theorem r_istore1 {l0 l1 : Option AV} {r : List (Option AV)} {x : Int} (hd : decode k.2.1 pc = .ok (.istore_n 1, 1)) (hc : nlo l0 = true) (kk : V k R cu su (pc + 1) (l0 :: some (vI x) :: r) st u Q) : V k R cu su pc (l0 :: l1 :: r) (vI x :: st) u Q :=
  g_istore_n (q := 1) hd (by show (1 : Nat) < _; simp) (pokS (l := l0) rfl hc) kk
theorem r_astore1 {l0 l1 : Option AV} {r : List (Option AV)} {x : Nat} (hd : decode k.2.1 pc = .ok (.astore_n 1, 1)) (hc : nlo l0 = true) (kk : V k R cu su (pc + 1) (l0 :: some (vR (some x)) :: r) st u Q) : V k R cu su pc (l0 :: l1 :: r) (vR (some x) :: st) u Q :=
  g_astore_n (q := 1) hd (by show (1 : Nat) < _; simp) (pokS (l := l0) rfl hc) kk
theorem r_astoreN1 {l0 l1 : Option AV} {r : List (Option AV)} (hd : decode k.2.1 pc = .ok (.astore_n 1, 1)) (hc : nlo l0 = true) (kk : V k R cu su (pc + 1) (l0 :: some (vR none) :: r) st u Q) : V k R cu su pc (l0 :: l1 :: r) (vR none :: st) u Q :=
  g_astoreN_n (q := 1) hd (by show (1 : Nat) < _; simp) (pokS (l := l0) rfl hc) kk
theorem r_iinc1 {l0 : Option AV} {r : List (Option AV)} {x n : Int} (hd : decode k.2.1 pc = .ok (.iinc 1 n, 3)) (hc : nlo l0 = true) (kk : V k R cu su (pc + 3) (l0 :: some (vI (x + n)) :: r) st u Q) : V k R cu su pc (l0 :: some (vI x) :: r) st u Q :=
  g_iinc (x := x) hd rfl (pokS (l := l0) rfl hc) kk
theorem r_lstore1 {l0 l1 l2 : Option AV} {r : List (Option AV)} {x : Int} (hd : decode k.2.1 pc = .ok (.lstore_n 1, 1)) (hc : nlo l0 = true) (kk : V k R cu su (pc + 1) (l0 :: some (vL x) :: none :: r) st u Q) : V k R cu su pc (l0 :: l1 :: l2 :: r) (vL x :: st) u Q :=
  g_lstore_n (q := 1) hd (by show (2 : Nat) < _; simp) (pokS (l := l0) rfl hc) kk
theorem r_dstore1 {l0 l1 l2 : Option AV} {r : List (Option AV)} {x : UInt64} (hd : decode k.2.1 pc = .ok (.dstore_n 1, 1)) (hc : nlo l0 = true) (kk : V k R cu su (pc + 1) (l0 :: some (vD x) :: none :: r) st u Q) : V k R cu su pc (l0 :: l1 :: l2 :: r) (vD x :: st) u Q :=
  g_dstore_n (q := 1) hd (by show (2 : Nat) < _; simp) (pokS (l := l0) rfl hc) kk
theorem r_istore2 {l0 l1 l2 : Option AV} {r : List (Option AV)} {x : Int} (hd : decode k.2.1 pc = .ok (.istore_n 2, 1)) (hc : nlo l1 = true) (kk : V k R cu su (pc + 1) (l0 :: l1 :: some (vI x) :: r) st u Q) : V k R cu su pc (l0 :: l1 :: l2 :: r) (vI x :: st) u Q :=
  g_istore_n (q := 2) hd (by show (2 : Nat) < _; simp) (pokS (l := l1) rfl hc) kk
theorem r_astore2 {l0 l1 l2 : Option AV} {r : List (Option AV)} {x : Nat} (hd : decode k.2.1 pc = .ok (.astore_n 2, 1)) (hc : nlo l1 = true) (kk : V k R cu su (pc + 1) (l0 :: l1 :: some (vR (some x)) :: r) st u Q) : V k R cu su pc (l0 :: l1 :: l2 :: r) (vR (some x) :: st) u Q :=
  g_astore_n (q := 2) hd (by show (2 : Nat) < _; simp) (pokS (l := l1) rfl hc) kk
theorem r_astoreN2 {l0 l1 l2 : Option AV} {r : List (Option AV)} (hd : decode k.2.1 pc = .ok (.astore_n 2, 1)) (hc : nlo l1 = true) (kk : V k R cu su (pc + 1) (l0 :: l1 :: some (vR none) :: r) st u Q) : V k R cu su pc (l0 :: l1 :: l2 :: r) (vR none :: st) u Q :=
  g_astoreN_n (q := 2) hd (by show (2 : Nat) < _; simp) (pokS (l := l1) rfl hc) kk
theorem r_iinc2 {l0 l1 : Option AV} {r : List (Option AV)} {x n : Int} (hd : decode k.2.1 pc = .ok (.iinc 2 n, 3)) (hc : nlo l1 = true) (kk : V k R cu su (pc + 3) (l0 :: l1 :: some (vI (x + n)) :: r) st u Q) : V k R cu su pc (l0 :: l1 :: some (vI x) :: r) st u Q :=
  g_iinc (x := x) hd rfl (pokS (l := l1) rfl hc) kk
theorem r_lstore2 {l0 l1 l2 l3 : Option AV} {r : List (Option AV)} {x : Int} (hd : decode k.2.1 pc = .ok (.lstore_n 2, 1)) (hc : nlo l1 = true) (kk : V k R cu su (pc + 1) (l0 :: l1 :: some (vL x) :: none :: r) st u Q) : V k R cu su pc (l0 :: l1 :: l2 :: l3 :: r) (vL x :: st) u Q :=
  g_lstore_n (q := 2) hd (by show (3 : Nat) < _; simp) (pokS (l := l1) rfl hc) kk
theorem r_dstore2 {l0 l1 l2 l3 : Option AV} {r : List (Option AV)} {x : UInt64} (hd : decode k.2.1 pc = .ok (.dstore_n 2, 1)) (hc : nlo l1 = true) (kk : V k R cu su (pc + 1) (l0 :: l1 :: some (vD x) :: none :: r) st u Q) : V k R cu su pc (l0 :: l1 :: l2 :: l3 :: r) (vD x :: st) u Q :=
  g_dstore_n (q := 2) hd (by show (3 : Nat) < _; simp) (pokS (l := l1) rfl hc) kk
theorem r_istore3 {l0 l1 l2 l3 : Option AV} {r : List (Option AV)} {x : Int} (hd : decode k.2.1 pc = .ok (.istore_n 3, 1)) (hc : nlo l2 = true) (kk : V k R cu su (pc + 1) (l0 :: l1 :: l2 :: some (vI x) :: r) st u Q) : V k R cu su pc (l0 :: l1 :: l2 :: l3 :: r) (vI x :: st) u Q :=
  g_istore_n (q := 3) hd (by show (3 : Nat) < _; simp) (pokS (l := l2) rfl hc) kk
theorem r_astore3 {l0 l1 l2 l3 : Option AV} {r : List (Option AV)} {x : Nat} (hd : decode k.2.1 pc = .ok (.astore_n 3, 1)) (hc : nlo l2 = true) (kk : V k R cu su (pc + 1) (l0 :: l1 :: l2 :: some (vR (some x)) :: r) st u Q) : V k R cu su pc (l0 :: l1 :: l2 :: l3 :: r) (vR (some x) :: st) u Q :=
  g_astore_n (q := 3) hd (by show (3 : Nat) < _; simp) (pokS (l := l2) rfl hc) kk
theorem r_astoreN3 {l0 l1 l2 l3 : Option AV} {r : List (Option AV)} (hd : decode k.2.1 pc = .ok (.astore_n 3, 1)) (hc : nlo l2 = true) (kk : V k R cu su (pc + 1) (l0 :: l1 :: l2 :: some (vR none) :: r) st u Q) : V k R cu su pc (l0 :: l1 :: l2 :: l3 :: r) (vR none :: st) u Q :=
  g_astoreN_n (q := 3) hd (by show (3 : Nat) < _; simp) (pokS (l := l2) rfl hc) kk
theorem r_iinc3 {l0 l1 l2 : Option AV} {r : List (Option AV)} {x n : Int} (hd : decode k.2.1 pc = .ok (.iinc 3 n, 3)) (hc : nlo l2 = true) (kk : V k R cu su (pc + 3) (l0 :: l1 :: l2 :: some (vI (x + n)) :: r) st u Q) : V k R cu su pc (l0 :: l1 :: l2 :: some (vI x) :: r) st u Q :=
  g_iinc (x := x) hd rfl (pokS (l := l2) rfl hc) kk
theorem r_lstore3 {l0 l1 l2 l3 l4 : Option AV} {r : List (Option AV)} {x : Int} (hd : decode k.2.1 pc = .ok (.lstore_n 3, 1)) (hc : nlo l2 = true) (kk : V k R cu su (pc + 1) (l0 :: l1 :: l2 :: some (vL x) :: none :: r) st u Q) : V k R cu su pc (l0 :: l1 :: l2 :: l3 :: l4 :: r) (vL x :: st) u Q :=
  g_lstore_n (q := 3) hd (by show (4 : Nat) < _; simp) (pokS (l := l2) rfl hc) kk
theorem r_dstore3 {l0 l1 l2 l3 l4 : Option AV} {r : List (Option AV)} {x : UInt64} (hd : decode k.2.1 pc = .ok (.dstore_n 3, 1)) (hc : nlo l2 = true) (kk : V k R cu su (pc + 1) (l0 :: l1 :: l2 :: some (vD x) :: none :: r) st u Q) : V k R cu su pc (l0 :: l1 :: l2 :: l3 :: l4 :: r) (vD x :: st) u Q :=
  g_dstore_n (q := 3) hd (by show (4 : Nat) < _; simp) (pokS (l := l2) rfl hc) kk
theorem r_istore4 {l0 l1 l2 l3 l4 : Option AV} {r : List (Option AV)} {x : Int} (hd : decode k.2.1 pc = .ok (.istore 4, 2)) (hc : nlo l3 = true) (kk : V k R cu su (pc + 2) (l0 :: l1 :: l2 :: l3 :: some (vI x) :: r) st u Q) : V k R cu su pc (l0 :: l1 :: l2 :: l3 :: l4 :: r) (vI x :: st) u Q :=
  g_istore (i := 4) hd (by show (4 : Nat) < _; simp) (pokS (l := l3) rfl hc) kk
theorem r_astore4 {l0 l1 l2 l3 l4 : Option AV} {r : List (Option AV)} {x : Nat} (hd : decode k.2.1 pc = .ok (.astore 4, 2)) (hc : nlo l3 = true) (kk : V k R cu su (pc + 2) (l0 :: l1 :: l2 :: l3 :: some (vR (some x)) :: r) st u Q) : V k R cu su pc (l0 :: l1 :: l2 :: l3 :: l4 :: r) (vR (some x) :: st) u Q :=
  g_astore (i := 4) hd (by show (4 : Nat) < _; simp) (pokS (l := l3) rfl hc) kk
theorem r_astoreN4 {l0 l1 l2 l3 l4 : Option AV} {r : List (Option AV)} (hd : decode k.2.1 pc = .ok (.astore 4, 2)) (hc : nlo l3 = true) (kk : V k R cu su (pc + 2) (l0 :: l1 :: l2 :: l3 :: some (vR none) :: r) st u Q) : V k R cu su pc (l0 :: l1 :: l2 :: l3 :: l4 :: r) (vR none :: st) u Q :=
  g_astoreN (i := 4) hd (by show (4 : Nat) < _; simp) (pokS (l := l3) rfl hc) kk
theorem r_iinc4 {l0 l1 l2 l3 : Option AV} {r : List (Option AV)} {x n : Int} (hd : decode k.2.1 pc = .ok (.iinc 4 n, 3)) (hc : nlo l3 = true) (kk : V k R cu su (pc + 3) (l0 :: l1 :: l2 :: l3 :: some (vI (x + n)) :: r) st u Q) : V k R cu su pc (l0 :: l1 :: l2 :: l3 :: some (vI x) :: r) st u Q :=
  g_iinc (x := x) hd rfl (pokS (l := l3) rfl hc) kk
theorem r_lstore4 {l0 l1 l2 l3 l4 l5 : Option AV} {r : List (Option AV)} {x : Int} (hd : decode k.2.1 pc = .ok (.lstore 4, 2)) (hc : nlo l3 = true) (kk : V k R cu su (pc + 2) (l0 :: l1 :: l2 :: l3 :: some (vL x) :: none :: r) st u Q) : V k R cu su pc (l0 :: l1 :: l2 :: l3 :: l4 :: l5 :: r) (vL x :: st) u Q :=
  g_lstore (i := 4) hd (by show (5 : Nat) < _; simp) (pokS (l := l3) rfl hc) kk
theorem r_dstore4 {l0 l1 l2 l3 l4 l5 : Option AV} {r : List (Option AV)} {x : UInt64} (hd : decode k.2.1 pc = .ok (.dstore 4, 2)) (hc : nlo l3 = true) (kk : V k R cu su (pc + 2) (l0 :: l1 :: l2 :: l3 :: some (vD x) :: none :: r) st u Q) : V k R cu su pc (l0 :: l1 :: l2 :: l3 :: l4 :: l5 :: r) (vD x :: st) u Q :=
  g_dstore (i := 4) hd (by show (5 : Nat) < _; simp) (pokS (l := l3) rfl hc) kk
theorem r_istore5 {l0 l1 l2 l3 l4 l5 : Option AV} {r : List (Option AV)} {x : Int} (hd : decode k.2.1 pc = .ok (.istore 5, 2)) (hc : nlo l4 = true) (kk : V k R cu su (pc + 2) (l0 :: l1 :: l2 :: l3 :: l4 :: some (vI x) :: r) st u Q) : V k R cu su pc (l0 :: l1 :: l2 :: l3 :: l4 :: l5 :: r) (vI x :: st) u Q :=
  g_istore (i := 5) hd (by show (5 : Nat) < _; simp) (pokS (l := l4) rfl hc) kk
theorem r_astore5 {l0 l1 l2 l3 l4 l5 : Option AV} {r : List (Option AV)} {x : Nat} (hd : decode k.2.1 pc = .ok (.astore 5, 2)) (hc : nlo l4 = true) (kk : V k R cu su (pc + 2) (l0 :: l1 :: l2 :: l3 :: l4 :: some (vR (some x)) :: r) st u Q) : V k R cu su pc (l0 :: l1 :: l2 :: l3 :: l4 :: l5 :: r) (vR (some x) :: st) u Q :=
  g_astore (i := 5) hd (by show (5 : Nat) < _; simp) (pokS (l := l4) rfl hc) kk
theorem r_astoreN5 {l0 l1 l2 l3 l4 l5 : Option AV} {r : List (Option AV)} (hd : decode k.2.1 pc = .ok (.astore 5, 2)) (hc : nlo l4 = true) (kk : V k R cu su (pc + 2) (l0 :: l1 :: l2 :: l3 :: l4 :: some (vR none) :: r) st u Q) : V k R cu su pc (l0 :: l1 :: l2 :: l3 :: l4 :: l5 :: r) (vR none :: st) u Q :=
  g_astoreN (i := 5) hd (by show (5 : Nat) < _; simp) (pokS (l := l4) rfl hc) kk
theorem r_iinc5 {l0 l1 l2 l3 l4 : Option AV} {r : List (Option AV)} {x n : Int} (hd : decode k.2.1 pc = .ok (.iinc 5 n, 3)) (hc : nlo l4 = true) (kk : V k R cu su (pc + 3) (l0 :: l1 :: l2 :: l3 :: l4 :: some (vI (x + n)) :: r) st u Q) : V k R cu su pc (l0 :: l1 :: l2 :: l3 :: l4 :: some (vI x) :: r) st u Q :=
  g_iinc (x := x) hd rfl (pokS (l := l4) rfl hc) kk
theorem r_lstore5 {l0 l1 l2 l3 l4 l5 l6 : Option AV} {r : List (Option AV)} {x : Int} (hd : decode k.2.1 pc = .ok (.lstore 5, 2)) (hc : nlo l4 = true) (kk : V k R cu su (pc + 2) (l0 :: l1 :: l2 :: l3 :: l4 :: some (vL x) :: none :: r) st u Q) : V k R cu su pc (l0 :: l1 :: l2 :: l3 :: l4 :: l5 :: l6 :: r) (vL x :: st) u Q :=
  g_lstore (i := 5) hd (by show (6 : Nat) < _; simp) (pokS (l := l4) rfl hc) kk
theorem r_dstore5 {l0 l1 l2 l3 l4 l5 l6 : Option AV} {r : List (Option AV)} {x : UInt64} (hd : decode k.2.1 pc = .ok (.dstore 5, 2)) (hc : nlo l4 = true) (kk : V k R cu su (pc + 2) (l0 :: l1 :: l2 :: l3 :: l4 :: some (vD x) :: none :: r) st u Q) : V k R cu su pc (l0 :: l1 :: l2 :: l3 :: l4 :: l5 :: l6 :: r) (vD x :: st) u Q :=
  g_dstore (i := 5) hd (by show (6 : Nat) < _; simp) (pokS (l := l4) rfl hc) kk
theorem r_istore6 {l0 l1 l2 l3 l4 l5 l6 : Option AV} {r : List (Option AV)} {x : Int} (hd : decode k.2.1 pc = .ok (.istore 6, 2)) (hc : nlo l5 = true) (kk : V k R cu su (pc + 2) (l0 :: l1 :: l2 :: l3 :: l4 :: l5 :: some (vI x) :: r) st u Q) : V k R cu su pc (l0 :: l1 :: l2 :: l3 :: l4 :: l5 :: l6 :: r) (vI x :: st) u Q :=
  g_istore (i := 6) hd (by show (6 : Nat) < _; simp) (pokS (l := l5) rfl hc) kk
theorem r_astore6 {l0 l1 l2 l3 l4 l5 l6 : Option AV} {r : List (Option AV)} {x : Nat} (hd : decode k.2.1 pc = .ok (.astore 6, 2)) (hc : nlo l5 = true) (kk : V k R cu su (pc + 2) (l0 :: l1 :: l2 :: l3 :: l4 :: l5 :: some (vR (some x)) :: r) st u Q) : V k R cu su pc (l0 :: l1 :: l2 :: l3 :: l4 :: l5 :: l6 :: r) (vR (some x) :: st) u Q :=
  g_astore (i := 6) hd (by show (6 : Nat) < _; simp) (pokS (l := l5) rfl hc) kk
theorem r_astoreN6 {l0 l1 l2 l3 l4 l5 l6 : Option AV} {r : List (Option AV)} (hd : decode k.2.1 pc = .ok (.astore 6, 2)) (hc : nlo l5 = true) (kk : V k R cu su (pc + 2) (l0 :: l1 :: l2 :: l3 :: l4 :: l5 :: some (vR none) :: r) st u Q) : V k R cu su pc (l0 :: l1 :: l2 :: l3 :: l4 :: l5 :: l6 :: r) (vR none :: st) u Q :=
  g_astoreN (i := 6) hd (by show (6 : Nat) < _; simp) (pokS (l := l5) rfl hc) kk
theorem r_iinc6 {l0 l1 l2 l3 l4 l5 : Option AV} {r : List (Option AV)} {x n : Int} (hd : decode k.2.1 pc = .ok (.iinc 6 n, 3)) (hc : nlo l5 = true) (kk : V k R cu su (pc + 3) (l0 :: l1 :: l2 :: l3 :: l4 :: l5 :: some (vI (x + n)) :: r) st u Q) : V k R cu su pc (l0 :: l1 :: l2 :: l3 :: l4 :: l5 :: some (vI x) :: r) st u Q :=
  g_iinc (x := x) hd rfl (pokS (l := l5) rfl hc) kk
theorem r_lstore6 {l0 l1 l2 l3 l4 l5 l6 l7 : Option AV} {r : List (Option AV)} {x : Int} (hd : decode k.2.1 pc = .ok (.lstore 6, 2)) (hc : nlo l5 = true) (kk : V k R cu su (pc + 2) (l0 :: l1 :: l2 :: l3 :: l4 :: l5 :: some (vL x) :: none :: r) st u Q) : V k R cu su pc (l0 :: l1 :: l2 :: l3 :: l4 :: l5 :: l6 :: l7 :: r) (vL x :: st) u Q :=
  g_lstore (i := 6) hd (by show (7 : Nat) < _; simp) (pokS (l := l5) rfl hc) kk
theorem r_dstore6 {l0 l1 l2 l3 l4 l5 l6 l7 : Option AV} {r : List (Option AV)} {x : UInt64} (hd : decode k.2.1 pc = .ok (.dstore 6, 2)) (hc : nlo l5 = true) (kk : V k R cu su (pc + 2) (l0 :: l1 :: l2 :: l3 :: l4 :: l5 :: some (vD x) :: none :: r) st u Q) : V k R cu su pc (l0 :: l1 :: l2 :: l3 :: l4 :: l5 :: l6 :: l7 :: r) (vD x :: st) u Q :=
  g_dstore (i := 6) hd (by show (7 : Nat) < _; simp) (pokS (l := l5) rfl hc) kk
theorem r_istore7 {l0 l1 l2 l3 l4 l5 l6 l7 : Option AV} {r : List (Option AV)} {x : Int} (hd : decode k.2.1 pc = .ok (.istore 7, 2)) (hc : nlo l6 = true) (kk : V k R cu su (pc + 2) (l0 :: l1 :: l2 :: l3 :: l4 :: l5 :: l6 :: some (vI x) :: r) st u Q) : V k R cu su pc (l0 :: l1 :: l2 :: l3 :: l4 :: l5 :: l6 :: l7 :: r) (vI x :: st) u Q :=
  g_istore (i := 7) hd (by show (7 : Nat) < _; simp) (pokS (l := l6) rfl hc) kk
theorem r_astore7 {l0 l1 l2 l3 l4 l5 l6 l7 : Option AV} {r : List (Option AV)} {x : Nat} (hd : decode k.2.1 pc = .ok (.astore 7, 2)) (hc : nlo l6 = true) (kk : V k R cu su (pc + 2) (l0 :: l1 :: l2 :: l3 :: l4 :: l5 :: l6 :: some (vR (some x)) :: r) st u Q) : V k R cu su pc (l0 :: l1 :: l2 :: l3 :: l4 :: l5 :: l6 :: l7 :: r) (vR (some x) :: st) u Q :=
  g_astore (i := 7) hd (by show (7 : Nat) < _; simp) (pokS (l := l6) rfl hc) kk
theorem r_astoreN7 {l0 l1 l2 l3 l4 l5 l6 l7 : Option AV} {r : List (Option AV)} (hd : decode k.2.1 pc = .ok (.astore 7, 2)) (hc : nlo l6 = true) (kk : V k R cu su (pc + 2) (l0 :: l1 :: l2 :: l3 :: l4 :: l5 :: l6 :: some (vR none) :: r) st u Q) : V k R cu su pc (l0 :: l1 :: l2 :: l3 :: l4 :: l5 :: l6 :: l7 :: r) (vR none :: st) u Q :=
  g_astoreN (i := 7) hd (by show (7 : Nat) < _; simp) (pokS (l := l6) rfl hc) kk
theorem r_iinc7 {l0 l1 l2 l3 l4 l5 l6 : Option AV} {r : List (Option AV)} {x n : Int} (hd : decode k.2.1 pc = .ok (.iinc 7 n, 3)) (hc : nlo l6 = true) (kk : V k R cu su (pc + 3) (l0 :: l1 :: l2 :: l3 :: l4 :: l5 :: l6 :: some (vI (x + n)) :: r) st u Q) : V k R cu su pc (l0 :: l1 :: l2 :: l3 :: l4 :: l5 :: l6 :: some (vI x) :: r) st u Q :=
  g_iinc (x := x) hd rfl (pokS (l := l6) rfl hc) kk
theorem r_lstore7 {l0 l1 l2 l3 l4 l5 l6 l7 l8 : Option AV} {r : List (Option AV)} {x : Int} (hd : decode k.2.1 pc = .ok (.lstore 7, 2)) (hc : nlo l6 = true) (kk : V k R cu su (pc + 2) (l0 :: l1 :: l2 :: l3 :: l4 :: l5 :: l6 :: some (vL x) :: none :: r) st u Q) : V k R cu su pc (l0 :: l1 :: l2 :: l3 :: l4 :: l5 :: l6 :: l7 :: l8 :: r) (vL x :: st) u Q :=
  g_lstore (i := 7) hd (by show (8 : Nat) < _; simp) (pokS (l := l6) rfl hc) kk
theorem r_dstore7 {l0 l1 l2 l3 l4 l5 l6 l7 l8 : Option AV} {r : List (Option AV)} {x : UInt64} (hd : decode k.2.1 pc = .ok (.dstore 7, 2)) (hc : nlo l6 = true) (kk : V k R cu su (pc + 2) (l0 :: l1 :: l2 :: l3 :: l4 :: l5 :: l6 :: some (vD x) :: none :: r) st u Q) : V k R cu su pc (l0 :: l1 :: l2 :: l3 :: l4 :: l5 :: l6 :: l7 :: l8 :: r) (vD x :: st) u Q :=
  g_dstore (i := 7) hd (by show (8 : Nat) < _; simp) (pokS (l := l6) rfl hc) kk
theorem r_istore8 {l0 l1 l2 l3 l4 l5 l6 l7 l8 : Option AV} {r : List (Option AV)} {x : Int} (hd : decode k.2.1 pc = .ok (.istore 8, 2)) (hc : nlo l7 = true) (kk : V k R cu su (pc + 2) (l0 :: l1 :: l2 :: l3 :: l4 :: l5 :: l6 :: l7 :: some (vI x) :: r) st u Q) : V k R cu su pc (l0 :: l1 :: l2 :: l3 :: l4 :: l5 :: l6 :: l7 :: l8 :: r) (vI x :: st) u Q :=
  g_istore (i := 8) hd (by show (8 : Nat) < _; simp) (pokS (l := l7) rfl hc) kk
theorem r_astore8 {l0 l1 l2 l3 l4 l5 l6 l7 l8 : Option AV} {r : List (Option AV)} {x : Nat} (hd : decode k.2.1 pc = .ok (.astore 8, 2)) (hc : nlo l7 = true) (kk : V k R cu su (pc + 2) (l0 :: l1 :: l2 :: l3 :: l4 :: l5 :: l6 :: l7 :: some (vR (some x)) :: r) st u Q) : V k R cu su pc (l0 :: l1 :: l2 :: l3 :: l4 :: l5 :: l6 :: l7 :: l8 :: r) (vR (some x) :: st) u Q :=
  g_astore (i := 8) hd (by show (8 : Nat) < _; simp) (pokS (l := l7) rfl hc) kk
theorem r_astoreN8 {l0 l1 l2 l3 l4 l5 l6 l7 l8 : Option AV} {r : List (Option AV)} (hd : decode k.2.1 pc = .ok (.astore 8, 2)) (hc : nlo l7 = true) (kk : V k R cu su (pc + 2) (l0 :: l1 :: l2 :: l3 :: l4 :: l5 :: l6 :: l7 :: some (vR none) :: r) st u Q) : V k R cu su pc (l0 :: l1 :: l2 :: l3 :: l4 :: l5 :: l6 :: l7 :: l8 :: r) (vR none :: st) u Q :=
  g_astoreN (i := 8) hd (by show (8 : Nat) < _; simp) (pokS (l := l7) rfl hc) kk
theorem r_iinc8 {l0 l1 l2 l3 l4 l5 l6 l7 : Option AV} {r : List (Option AV)} {x n : Int} (hd : decode k.2.1 pc = .ok (.iinc 8 n, 3)) (hc : nlo l7 = true) (kk : V k R cu su (pc + 3) (l0 :: l1 :: l2 :: l3 :: l4 :: l5 :: l6 :: l7 :: some (vI (x + n)) :: r) st u Q) : V k R cu su pc (l0 :: l1 :: l2 :: l3 :: l4 :: l5 :: l6 :: l7 :: some (vI x) :: r) st u Q :=
  g_iinc (x := x) hd rfl (pokS (l := l7) rfl hc) kk
theorem r_lstore8 {l0 l1 l2 l3 l4 l5 l6 l7 l8 l9 : Option AV} {r : List (Option AV)} {x : Int} (hd : decode k.2.1 pc = .ok (.lstore 8, 2)) (hc : nlo l7 = true) (kk : V k R cu su (pc + 2) (l0 :: l1 :: l2 :: l3 :: l4 :: l5 :: l6 :: l7 :: some (vL x) :: none :: r) st u Q) : V k R cu su pc (l0 :: l1 :: l2 :: l3 :: l4 :: l5 :: l6 :: l7 :: l8 :: l9 :: r) (vL x :: st) u Q :=
  g_lstore (i := 8) hd (by show (9 : Nat) < _; simp) (pokS (l := l7) rfl hc) kk
theorem r_dstore8 {l0 l1 l2 l3 l4 l5 l6 l7 l8 l9 : Option AV} {r : List (Option AV)} {x : UInt64} (hd : decode k.2.1 pc = .ok (.dstore 8, 2)) (hc : nlo l7 = true) (kk : V k R cu su (pc + 2) (l0 :: l1 :: l2 :: l3 :: l4 :: l5 :: l6 :: l7 :: some (vD x) :: none :: r) st u Q) : V k R cu su pc (l0 :: l1 :: l2 :: l3 :: l4 :: l5 :: l6 :: l7 :: l8 :: l9 :: r) (vD x :: st) u Q :=
  g_dstore (i := 8) hd (by show (9 : Nat) < _; simp) (pokS (l := l7) rfl hc) kk
theorem r_istore9 {l0 l1 l2 l3 l4 l5 l6 l7 l8 l9 : Option AV} {r : List (Option AV)} {x : Int} (hd : decode k.2.1 pc = .ok (.istore 9, 2)) (hc : nlo l8 = true) (kk : V k R cu su (pc + 2) (l0 :: l1 :: l2 :: l3 :: l4 :: l5 :: l6 :: l7 :: l8 :: some (vI x) :: r) st u Q) : V k R cu su pc (l0 :: l1 :: l2 :: l3 :: l4 :: l5 :: l6 :: l7 :: l8 :: l9 :: r) (vI x :: st) u Q :=
  g_istore (i := 9) hd (by show (9 : Nat) < _; simp) (pokS (l := l8) rfl hc) kk
theorem r_astore9 {l0 l1 l2 l3 l4 l5 l6 l7 l8 l9 : Option AV} {r : List (Option AV)} {x : Nat} (hd : decode k.2.1 pc = .ok (.astore 9, 2)) (hc : nlo l8 = true) (kk : V k R cu su (pc + 2) (l0 :: l1 :: l2 :: l3 :: l4 :: l5 :: l6 :: l7 :: l8 :: some (vR (some x)) :: r) st u Q) : V k R cu su pc (l0 :: l1 :: l2 :: l3 :: l4 :: l5 :: l6 :: l7 :: l8 :: l9 :: r) (vR (some x) :: st) u Q :=
  g_astore (i := 9) hd (by show (9 : Nat) < _; simp) (pokS (l := l8) rfl hc) kk
theorem r_astoreN9 {l0 l1 l2 l3 l4 l5 l6 l7 l8 l9 : Option AV} {r : List (Option AV)} (hd : decode k.2.1 pc = .ok (.astore 9, 2)) (hc : nlo l8 = true) (kk : V k R cu su (pc + 2) (l0 :: l1 :: l2 :: l3 :: l4 :: l5 :: l6 :: l7 :: l8 :: some (vR none) :: r) st u Q) : V k R cu su pc (l0 :: l1 :: l2 :: l3 :: l4 :: l5 :: l6 :: l7 :: l8 :: l9 :: r) (vR none :: st) u Q :=
  g_astoreN (i := 9) hd (by show (9 : Nat) < _; simp) (pokS (l := l8) rfl hc) kk
theorem r_iinc9 {l0 l1 l2 l3 l4 l5 l6 l7 l8 : Option AV} {r : List (Option AV)} {x n : Int} (hd : decode k.2.1 pc = .ok (.iinc 9 n, 3)) (hc : nlo l8 = true) (kk : V k R cu su (pc + 3) (l0 :: l1 :: l2 :: l3 :: l4 :: l5 :: l6 :: l7 :: l8 :: some (vI (x + n)) :: r) st u Q) : V k R cu su pc (l0 :: l1 :: l2 :: l3 :: l4 :: l5 :: l6 :: l7 :: l8 :: some (vI x) :: r) st u Q :=
  g_iinc (x := x) hd rfl (pokS (l := l8) rfl hc) kk
theorem r_lstore9 {l0 l1 l2 l3 l4 l5 l6 l7 l8 l9 l10 : Option AV} {r : List (Option AV)} {x : Int} (hd : decode k.2.1 pc = .ok (.lstore 9, 2)) (hc : nlo l8 = true) (kk : V k R cu su (pc + 2) (l0 :: l1 :: l2 :: l3 :: l4 :: l5 :: l6 :: l7 :: l8 :: some (vL x) :: none :: r) st u Q) : V k R cu su pc (l0 :: l1 :: l2 :: l3 :: l4 :: l5 :: l6 :: l7 :: l8 :: l9 :: l10 :: r) (vL x :: st) u Q :=
  g_lstore (i := 9) hd (by show (10 : Nat) < _; simp) (pokS (l := l8) rfl hc) kk
theorem r_dstore9 {l0 l1 l2 l3 l4 l5 l6 l7 l8 l9 l10 : Option AV} {r : List (Option AV)} {x : UInt64} (hd : decode k.2.1 pc = .ok (.dstore 9, 2)) (hc : nlo l8 = true) (kk : V k R cu su (pc + 2) (l0 :: l1 :: l2 :: l3 :: l4 :: l5 :: l6 :: l7 :: l8 :: some (vD x) :: none :: r) st u Q) : V k R cu su pc (l0 :: l1 :: l2 :: l3 :: l4 :: l5 :: l6 :: l7 :: l8 :: l9 :: l10 :: r) (vD x :: st) u Q :=
  g_dstore (i := 9) hd (by show (10 : Nat) < _; simp) (pokS (l := l8) rfl hc) kk
theorem r_istore10 {l0 l1 l2 l3 l4 l5 l6 l7 l8 l9 l10 : Option AV} {r : List (Option AV)} {x : Int} (hd : decode k.2.1 pc = .ok (.istore 10, 2)) (hc : nlo l9 = true) (kk : V k R cu su (pc + 2) (l0 :: l1 :: l2 :: l3 :: l4 :: l5 :: l6 :: l7 :: l8 :: l9 :: some (vI x) :: r) st u Q) : V k R cu su pc (l0 :: l1 :: l2 :: l3 :: l4 :: l5 :: l6 :: l7 :: l8 :: l9 :: l10 :: r) (vI x :: st) u Q :=
  g_istore (i := 10) hd (by show (10 : Nat) < _; simp) (pokS (l := l9) rfl hc) kk
theorem r_astore10 {l0 l1 l2 l3 l4 l5 l6 l7 l8 l9 l10 : Option AV} {r : List (Option AV)} {x : Nat} (hd : decode k.2.1 pc = .ok (.astore 10, 2)) (hc : nlo l9 = true) (kk : V k R cu su (pc + 2) (l0 :: l1 :: l2 :: l3 :: l4 :: l5 :: l6 :: l7 :: l8 :: l9 :: some (vR (some x)) :: r) st u Q) : V k R cu su pc (l0 :: l1 :: l2 :: l3 :: l4 :: l5 :: l6 :: l7 :: l8 :: l9 :: l10 :: r) (vR (some x) :: st) u Q :=
  g_astore (i := 10) hd (by show (10 : Nat) < _; simp) (pokS (l := l9) rfl hc) kk
theorem r_astoreN10 {l0 l1 l2 l3 l4 l5 l6 l7 l8 l9 l10 : Option AV} {r : List (Option AV)} (hd : decode k.2.1 pc = .ok (.astore 10, 2)) (hc : nlo l9 = true) (kk : V k R cu su (pc + 2) (l0 :: l1 :: l2 :: l3 :: l4 :: l5 :: l6 :: l7 :: l8 :: l9 :: some (vR none) :: r) st u Q) : V k R cu su pc (l0 :: l1 :: l2 :: l3 :: l4 :: l5 :: l6 :: l7 :: l8 :: l9 :: l10 :: r) (vR none :: st) u Q :=
  g_astoreN (i := 10) hd (by show (10 : Nat) < _; simp) (pokS (l := l9) rfl hc) kk
theorem r_iinc10 {l0 l1 l2 l3 l4 l5 l6 l7 l8 l9 : Option AV} {r : List (Option AV)} {x n : Int} (hd : decode k.2.1 pc = .ok (.iinc 10 n, 3)) (hc : nlo l9 = true) (kk : V k R cu su (pc + 3) (l0 :: l1 :: l2 :: l3 :: l4 :: l5 :: l6 :: l7 :: l8 :: l9 :: some (vI (x + n)) :: r) st u Q) : V k R cu su pc (l0 :: l1 :: l2 :: l3 :: l4 :: l5 :: l6 :: l7 :: l8 :: l9 :: some (vI x) :: r) st u Q :=
  g_iinc (x := x) hd rfl (pokS (l := l9) rfl hc) kk
theorem r_lstore10 {l0 l1 l2 l3 l4 l5 l6 l7 l8 l9 l10 l11 : Option AV} {r : List (Option AV)} {x : Int} (hd : decode k.2.1 pc = .ok (.lstore 10, 2)) (hc : nlo l9 = true) (kk : V k R cu su (pc + 2) (l0 :: l1 :: l2 :: l3 :: l4 :: l5 :: l6 :: l7 :: l8 :: l9 :: some (vL x) :: none :: r) st u Q) : V k R cu su pc (l0 :: l1 :: l2 :: l3 :: l4 :: l5 :: l6 :: l7 :: l8 :: l9 :: l10 :: l11 :: r) (vL x :: st) u Q :=
  g_lstore (i := 10) hd (by show (11 : Nat) < _; simp) (pokS (l := l9) rfl hc) kk
theorem r_dstore10 {l0 l1 l2 l3 l4 l5 l6 l7 l8 l9 l10 l11 : Option AV} {r : List (Option AV)} {x : UInt64} (hd : decode k.2.1 pc = .ok (.dstore 10, 2)) (hc : nlo l9 = true) (kk : V k R cu su (pc + 2) (l0 :: l1 :: l2 :: l3 :: l4 :: l5 :: l6 :: l7 :: l8 :: l9 :: some (vD x) :: none :: r) st u Q) : V k R cu su pc (l0 :: l1 :: l2 :: l3 :: l4 :: l5 :: l6 :: l7 :: l8 :: l9 :: l10 :: l11 :: r) (vD x :: st) u Q :=
  g_dstore (i := 10) hd (by show (11 : Nat) < _; simp) (pokS (l := l9) rfl hc) kk
theorem r_istore11 {l0 l1 l2 l3 l4 l5 l6 l7 l8 l9 l10 l11 : Option AV} {r : List (Option AV)} {x : Int} (hd : decode k.2.1 pc = .ok (.istore 11, 2)) (hc : nlo l10 = true) (kk : V k R cu su (pc + 2) (l0 :: l1 :: l2 :: l3 :: l4 :: l5 :: l6 :: l7 :: l8 :: l9 :: l10 :: some (vI x) :: r) st u Q) : V k R cu su pc (l0 :: l1 :: l2 :: l3 :: l4 :: l5 :: l6 :: l7 :: l8 :: l9 :: l10 :: l11 :: r) (vI x :: st) u Q :=
  g_istore (i := 11) hd (by show (11 : Nat) < _; simp) (pokS (l := l10) rfl hc) kk
theorem r_astore11 {l0 l1 l2 l3 l4 l5 l6 l7 l8 l9 l10 l11 : Option AV} {r : List (Option AV)} {x : Nat} (hd : decode k.2.1 pc = .ok (.astore 11, 2)) (hc : nlo l10 = true) (kk : V k R cu su (pc + 2) (l0 :: l1 :: l2 :: l3 :: l4 :: l5 :: l6 :: l7 :: l8 :: l9 :: l10 :: some (vR (some x)) :: r) st u Q) : V k R cu su pc (l0 :: l1 :: l2 :: l3 :: l4 :: l5 :: l6 :: l7 :: l8 :: l9 :: l10 :: l11 :: r) (vR (some x) :: st) u Q :=
  g_astore (i := 11) hd (by show (11 : Nat) < _; simp) (pokS (l := l10) rfl hc) kk
theorem r_astoreN11 {l0 l1 l2 l3 l4 l5 l6 l7 l8 l9 l10 l11 : Option AV} {r : List (Option AV)} (hd : decode k.2.1 pc = .ok (.astore 11, 2)) (hc : nlo l10 = true) (kk : V k R cu su (pc + 2) (l0 :: l1 :: l2 :: l3 :: l4 :: l5 :: l6 :: l7 :: l8 :: l9 :: l10 :: some (vR none) :: r) st u Q) : V k R cu su pc (l0 :: l1 :: l2 :: l3 :: l4 :: l5 :: l6 :: l7 :: l8 :: l9 :: l10 :: l11 :: r) (vR none :: st) u Q :=
  g_astoreN (i := 11) hd (by show (11 : Nat) < _; simp) (pokS (l := l10) rfl hc) kk
theorem r_iinc11 {l0 l1 l2 l3 l4 l5 l6 l7 l8 l9 l10 : Option AV} {r : List (Option AV)} {x n : Int} (hd : decode k.2.1 pc = .ok (.iinc 11 n, 3)) (hc : nlo l10 = true) (kk : V k R cu su (pc + 3) (l0 :: l1 :: l2 :: l3 :: l4 :: l5 :: l6 :: l7 :: l8 :: l9 :: l10 :: some (vI (x + n)) :: r) st u Q) : V k R cu su pc (l0 :: l1 :: l2 :: l3 :: l4 :: l5 :: l6 :: l7 :: l8 :: l9 :: l10 :: some (vI x) :: r) st u Q :=
  g_iinc (x := x) hd rfl (pokS (l := l10) rfl hc) kk
theorem r_lstore11 {l0 l1 l2 l3 l4 l5 l6 l7 l8 l9 l10 l11 l12 : Option AV} {r : List (Option AV)} {x : Int} (hd : decode k.2.1 pc = .ok (.lstore 11, 2)) (hc : nlo l10 = true) (kk : V k R cu su (pc + 2) (l0 :: l1 :: l2 :: l3 :: l4 :: l5 :: l6 :: l7 :: l8 :: l9 :: l10 :: some (vL x) :: none :: r) st u Q) : V k R cu su pc (l0 :: l1 :: l2 :: l3 :: l4 :: l5 :: l6 :: l7 :: l8 :: l9 :: l10 :: l11 :: l12 :: r) (vL x :: st) u Q :=
  g_lstore (i := 11) hd (by show (12 : Nat) < _; simp) (pokS (l := l10) rfl hc) kk
theorem r_dstore11 {l0 l1 l2 l3 l4 l5 l6 l7 l8 l9 l10 l11 l12 : Option AV} {r : List (Option AV)} {x : UInt64} (hd : decode k.2.1 pc = .ok (.dstore 11, 2)) (hc : nlo l10 = true) (kk : V k R cu su (pc + 2) (l0 :: l1 :: l2 :: l3 :: l4 :: l5 :: l6 :: l7 :: l8 :: l9 :: l10 :: some (vD x) :: none :: r) st u Q) : V k R cu su pc (l0 :: l1 :: l2 :: l3 :: l4 :: l5 :: l6 :: l7 :: l8 :: l9 :: l10 :: l11 :: l12 :: r) (vD x :: st) u Q :=
  g_dstore (i := 11) hd (by show (12 : Nat) < _; simp) (pokS (l := l10) rfl hc) kk
theorem r_istore12 {l0 l1 l2 l3 l4 l5 l6 l7 l8 l9 l10 l11 l12 : Option AV} {r : List (Option AV)} {x : Int} (hd : decode k.2.1 pc = .ok (.istore 12, 2)) (hc : nlo l11 = true) (kk : V k R cu su (pc + 2) (l0 :: l1 :: l2 :: l3 :: l4 :: l5 :: l6 :: l7 :: l8 :: l9 :: l10 :: l11 :: some (vI x) :: r) st u Q) : V k R cu su pc (l0 :: l1 :: l2 :: l3 :: l4 :: l5 :: l6 :: l7 :: l8 :: l9 :: l10 :: l11 :: l12 :: r) (vI x :: st) u Q :=
  g_istore (i := 12) hd (by show (12 : Nat) < _; simp) (pokS (l := l11) rfl hc) kk
theorem r_astore12 {l0 l1 l2 l3 l4 l5 l6 l7 l8 l9 l10 l11 l12 : Option AV} {r : List (Option AV)} {x : Nat} (hd : decode k.2.1 pc = .ok (.astore 12, 2)) (hc : nlo l11 = true) (kk : V k R cu su (pc + 2) (l0 :: l1 :: l2 :: l3 :: l4 :: l5 :: l6 :: l7 :: l8 :: l9 :: l10 :: l11 :: some (vR (some x)) :: r) st u Q) : V k R cu su pc (l0 :: l1 :: l2 :: l3 :: l4 :: l5 :: l6 :: l7 :: l8 :: l9 :: l10 :: l11 :: l12 :: r) (vR (some x) :: st) u Q :=
  g_astore (i := 12) hd (by show (12 : Nat) < _; simp) (pokS (l := l11) rfl hc) kk
theorem r_astoreN12 {l0 l1 l2 l3 l4 l5 l6 l7 l8 l9 l10 l11 l12 : Option AV} {r : List (Option AV)} (hd : decode k.2.1 pc = .ok (.astore 12, 2)) (hc : nlo l11 = true) (kk : V k R cu su (pc + 2) (l0 :: l1 :: l2 :: l3 :: l4 :: l5 :: l6 :: l7 :: l8 :: l9 :: l10 :: l11 :: some (vR none) :: r) st u Q) : V k R cu su pc (l0 :: l1 :: l2 :: l3 :: l4 :: l5 :: l6 :: l7 :: l8 :: l9 :: l10 :: l11 :: l12 :: r) (vR none :: st) u Q :=
  g_astoreN (i := 12) hd (by show (12 : Nat) < _; simp) (pokS (l := l11) rfl hc) kk
theorem r_iinc12 {l0 l1 l2 l3 l4 l5 l6 l7 l8 l9 l10 l11 : Option AV} {r : List (Option AV)} {x n : Int} (hd : decode k.2.1 pc = .ok (.iinc 12 n, 3)) (hc : nlo l11 = true) (kk : V k R cu su (pc + 3) (l0 :: l1 :: l2 :: l3 :: l4 :: l5 :: l6 :: l7 :: l8 :: l9 :: l10 :: l11 :: some (vI (x + n)) :: r) st u Q) : V k R cu su pc (l0 :: l1 :: l2 :: l3 :: l4 :: l5 :: l6 :: l7 :: l8 :: l9 :: l10 :: l11 :: some (vI x) :: r) st u Q :=
  g_iinc (x := x) hd rfl (pokS (l := l11) rfl hc) kk
theorem r_lstore12 {l0 l1 l2 l3 l4 l5 l6 l7 l8 l9 l10 l11 l12 l13 : Option AV} {r : List (Option AV)} {x : Int} (hd : decode k.2.1 pc = .ok (.lstore 12, 2)) (hc : nlo l11 = true) (kk : V k R cu su (pc + 2) (l0 :: l1 :: l2 :: l3 :: l4 :: l5 :: l6 :: l7 :: l8 :: l9 :: l10 :: l11 :: some (vL x) :: none :: r) st u Q) : V k R cu su pc (l0 :: l1 :: l2 :: l3 :: l4 :: l5 :: l6 :: l7 :: l8 :: l9 :: l10 :: l11 :: l12 :: l13 :: r) (vL x :: st) u Q :=
  g_lstore (i := 12) hd (by show (13 : Nat) < _; simp) (pokS (l := l11) rfl hc) kk
theorem r_dstore12 {l0 l1 l2 l3 l4 l5 l6 l7 l8 l9 l10 l11 l12 l13 : Option AV} {r : List (Option AV)} {x : UInt64} (hd : decode k.2.1 pc = .ok (.dstore 12, 2)) (hc : nlo l11 = true) (kk : V k R cu su (pc + 2) (l0 :: l1 :: l2 :: l3 :: l4 :: l5 :: l6 :: l7 :: l8 :: l9 :: l10 :: l11 :: some (vD x) :: none :: r) st u Q) : V k R cu su pc (l0 :: l1 :: l2 :: l3 :: l4 :: l5 :: l6 :: l7 :: l8 :: l9 :: l10 :: l11 :: l12 :: l13 :: r) (vD x :: st) u Q :=
  g_dstore (i := 12) hd (by show (13 : Nat) < _; simp) (pokS (l := l11) rfl hc) kk
theorem r_istore13 {l0 l1 l2 l3 l4 l5 l6 l7 l8 l9 l10 l11 l12 l13 : Option AV} {r : List (Option AV)} {x : Int} (hd : decode k.2.1 pc = .ok (.istore 13, 2)) (hc : nlo l12 = true) (kk : V k R cu su (pc + 2) (l0 :: l1 :: l2 :: l3 :: l4 :: l5 :: l6 :: l7 :: l8 :: l9 :: l10 :: l11 :: l12 :: some (vI x) :: r) st u Q) : V k R cu su pc (l0 :: l1 :: l2 :: l3 :: l4 :: l5 :: l6 :: l7 :: l8 :: l9 :: l10 :: l11 :: l12 :: l13 :: r) (vI x :: st) u Q :=
  g_istore (i := 13) hd (by show (13 : Nat) < _; simp) (pokS (l := l12) rfl hc) kk
theorem r_astore13 {l0 l1 l2 l3 l4 l5 l6 l7 l8 l9 l10 l11 l12 l13 : Option AV} {r : List (Option AV)} {x : Nat} (hd : decode k.2.1 pc = .ok (.astore 13, 2)) (hc : nlo l12 = true) (kk : V k R cu su (pc + 2) (l0 :: l1 :: l2 :: l3 :: l4 :: l5 :: l6 :: l7 :: l8 :: l9 :: l10 :: l11 :: l12 :: some (vR (some x)) :: r) st u Q) : V k R cu su pc (l0 :: l1 :: l2 :: l3 :: l4 :: l5 :: l6 :: l7 :: l8 :: l9 :: l10 :: l11 :: l12 :: l13 :: r) (vR (some x) :: st) u Q :=
  g_astore (i := 13) hd (by show (13 : Nat) < _; simp) (pokS (l := l12) rfl hc) kk
theorem r_astoreN13 {l0 l1 l2 l3 l4 l5 l6 l7 l8 l9 l10 l11 l12 l13 : Option AV} {r : List (Option AV)} (hd : decode k.2.1 pc = .ok (.astore 13, 2)) (hc : nlo l12 = true) (kk : V k R cu su (pc + 2) (l0 :: l1 :: l2 :: l3 :: l4 :: l5 :: l6 :: l7 :: l8 :: l9 :: l10 :: l11 :: l12 :: some (vR none) :: r) st u Q) : V k R cu su pc (l0 :: l1 :: l2 :: l3 :: l4 :: l5 :: l6 :: l7 :: l8 :: l9 :: l10 :: l11 :: l12 :: l13 :: r) (vR none :: st) u Q :=
  g_astoreN (i := 13) hd (by show (13 : Nat) < _; simp) (pokS (l := l12) rfl hc) kk
theorem r_iinc13 {l0 l1 l2 l3 l4 l5 l6 l7 l8 l9 l10 l11 l12 : Option AV} {r : List (Option AV)} {x n : Int} (hd : decode k.2.1 pc = .ok (.iinc 13 n, 3)) (hc : nlo l12 = true) (kk : V k R cu su (pc + 3) (l0 :: l1 :: l2 :: l3 :: l4 :: l5 :: l6 :: l7 :: l8 :: l9 :: l10 :: l11 :: l12 :: some (vI (x + n)) :: r) st u Q) : V k R cu su pc (l0 :: l1 :: l2 :: l3 :: l4 :: l5 :: l6 :: l7 :: l8 :: l9 :: l10 :: l11 :: l12 :: some (vI x) :: r) st u Q :=
  g_iinc (x := x) hd rfl (pokS (l := l12) rfl hc) kk
theorem r_lstore13 {l0 l1 l2 l3 l4 l5 l6 l7 l8 l9 l10 l11 l12 l13 l14 : Option AV} {r : List (Option AV)} {x : Int} (hd : decode k.2.1 pc = .ok (.lstore 13, 2)) (hc : nlo l12 = true) (kk : V k R cu su (pc + 2) (l0 :: l1 :: l2 :: l3 :: l4 :: l5 :: l6 :: l7 :: l8 :: l9 :: l10 :: l11 :: l12 :: some (vL x) :: none :: r) st u Q) : V k R cu su pc (l0 :: l1 :: l2 :: l3 :: l4 :: l5 :: l6 :: l7 :: l8 :: l9 :: l10 :: l11 :: l12 :: l13 :: l14 :: r) (vL x :: st) u Q :=
  g_lstore (i := 13) hd (by show (14 : Nat) < _; simp) (pokS (l := l12) rfl hc) kk
theorem r_dstore13 {l0 l1 l2 l3 l4 l5 l6 l7 l8 l9 l10 l11 l12 l13 l14 : Option AV} {r : List (Option AV)} {x : UInt64} (hd : decode k.2.1 pc = .ok (.dstore 13, 2)) (hc : nlo l12 = true) (kk : V k R cu su (pc + 2) (l0 :: l1 :: l2 :: l3 :: l4 :: l5 :: l6 :: l7 :: l8 :: l9 :: l10 :: l11 :: l12 :: some (vD x) :: none :: r) st u Q) : V k R cu su pc (l0 :: l1 :: l2 :: l3 :: l4 :: l5 :: l6 :: l7 :: l8 :: l9 :: l10 :: l11 :: l12 :: l13 :: l14 :: r) (vD x :: st) u Q :=
  g_dstore (i := 13) hd (by show (14 : Nat) < _; simp) (pokS (l := l12) rfl hc) kk
theorem r_istore14 {l0 l1 l2 l3 l4 l5 l6 l7 l8 l9 l10 l11 l12 l13 l14 : Option AV} {r : List (Option AV)} {x : Int} (hd : decode k.2.1 pc = .ok (.istore 14, 2)) (hc : nlo l13 = true) (kk : V k R cu su (pc + 2) (l0 :: l1 :: l2 :: l3 :: l4 :: l5 :: l6 :: l7 :: l8 :: l9 :: l10 :: l11 :: l12 :: l13 :: some (vI x) :: r) st u Q) : V k R cu su pc (l0 :: l1 :: l2 :: l3 :: l4 :: l5 :: l6 :: l7 :: l8 :: l9 :: l10 :: l11 :: l12 :: l13 :: l14 :: r) (vI x :: st) u Q :=
  g_istore (i := 14) hd (by show (14 : Nat) < _; simp) (pokS (l := l13) rfl hc) kk
theorem r_astore14 {l0 l1 l2 l3 l4 l5 l6 l7 l8 l9 l10 l11 l12 l13 l14 : Option AV} {r : List (Option AV)} {x : Nat} (hd : decode k.2.1 pc = .ok (.astore 14, 2)) (hc : nlo l13 = true) (kk : V k R cu su (pc + 2) (l0 :: l1 :: l2 :: l3 :: l4 :: l5 :: l6 :: l7 :: l8 :: l9 :: l10 :: l11 :: l12 :: l13 :: some (vR (some x)) :: r) st u Q) : V k R cu su pc (l0 :: l1 :: l2 :: l3 :: l4 :: l5 :: l6 :: l7 :: l8 :: l9 :: l10 :: l11 :: l12 :: l13 :: l14 :: r) (vR (some x) :: st) u Q :=
  g_astore (i := 14) hd (by show (14 : Nat) < _; simp) (pokS (l := l13) rfl hc) kk
theorem r_astoreN14 {l0 l1 l2 l3 l4 l5 l6 l7 l8 l9 l10 l11 l12 l13 l14 : Option AV} {r : List (Option AV)} (hd : decode k.2.1 pc = .ok (.astore 14, 2)) (hc : nlo l13 = true) (kk : V k R cu su (pc + 2) (l0 :: l1 :: l2 :: l3 :: l4 :: l5 :: l6 :: l7 :: l8 :: l9 :: l10 :: l11 :: l12 :: l13 :: some (vR none) :: r) st u Q) : V k R cu su pc (l0 :: l1 :: l2 :: l3 :: l4 :: l5 :: l6 :: l7 :: l8 :: l9 :: l10 :: l11 :: l12 :: l13 :: l14 :: r) (vR none :: st) u Q :=
  g_astoreN (i := 14) hd (by show (14 : Nat) < _; simp) (pokS (l := l13) rfl hc) kk
theorem r_iinc14 {l0 l1 l2 l3 l4 l5 l6 l7 l8 l9 l10 l11 l12 l13 : Option AV} {r : List (Option AV)} {x n : Int} (hd : decode k.2.1 pc = .ok (.iinc 14 n, 3)) (hc : nlo l13 = true) (kk : V k R cu su (pc + 3) (l0 :: l1 :: l2 :: l3 :: l4 :: l5 :: l6 :: l7 :: l8 :: l9 :: l10 :: l11 :: l12 :: l13 :: some (vI (x + n)) :: r) st u Q) : V k R cu su pc (l0 :: l1 :: l2 :: l3 :: l4 :: l5 :: l6 :: l7 :: l8 :: l9 :: l10 :: l11 :: l12 :: l13 :: some (vI x) :: r) st u Q :=
  g_iinc (x := x) hd rfl (pokS (l := l13) rfl hc) kk
theorem r_lstore14 {l0 l1 l2 l3 l4 l5 l6 l7 l8 l9 l10 l11 l12 l13 l14 l15 : Option AV} {r : List (Option AV)} {x : Int} (hd : decode k.2.1 pc = .ok (.lstore 14, 2)) (hc : nlo l13 = true) (kk : V k R cu su (pc + 2) (l0 :: l1 :: l2 :: l3 :: l4 :: l5 :: l6 :: l7 :: l8 :: l9 :: l10 :: l11 :: l12 :: l13 :: some (vL x) :: none :: r) st u Q) : V k R cu su pc (l0 :: l1 :: l2 :: l3 :: l4 :: l5 :: l6 :: l7 :: l8 :: l9 :: l10 :: l11 :: l12 :: l13 :: l14 :: l15 :: r) (vL x :: st) u Q :=
  g_lstore (i := 14) hd (by show (15 : Nat) < _; simp) (pokS (l := l13) rfl hc) kk
theorem r_dstore14 {l0 l1 l2 l3 l4 l5 l6 l7 l8 l9 l10 l11 l12 l13 l14 l15 : Option AV} {r : List (Option AV)} {x : UInt64} (hd : decode k.2.1 pc = .ok (.dstore 14, 2)) (hc : nlo l13 = true) (kk : V k R cu su (pc + 2) (l0 :: l1 :: l2 :: l3 :: l4 :: l5 :: l6 :: l7 :: l8 :: l9 :: l10 :: l11 :: l12 :: l13 :: some (vD x) :: none :: r) st u Q) : V k R cu su pc (l0 :: l1 :: l2 :: l3 :: l4 :: l5 :: l6 :: l7 :: l8 :: l9 :: l10 :: l11 :: l12 :: l13 :: l14 :: l15 :: r) (vD x :: st) u Q :=
  g_dstore (i := 14) hd (by show (15 : Nat) < _; simp) (pokS (l := l13) rfl hc) kk
theorem r_istore15 {l0 l1 l2 l3 l4 l5 l6 l7 l8 l9 l10 l11 l12 l13 l14 l15 : Option AV} {r : List (Option AV)} {x : Int} (hd : decode k.2.1 pc = .ok (.istore 15, 2)) (hc : nlo l14 = true) (kk : V k R cu su (pc + 2) (l0 :: l1 :: l2 :: l3 :: l4 :: l5 :: l6 :: l7 :: l8 :: l9 :: l10 :: l11 :: l12 :: l13 :: l14 :: some (vI x) :: r) st u Q) : V k R cu su pc (l0 :: l1 :: l2 :: l3 :: l4 :: l5 :: l6 :: l7 :: l8 :: l9 :: l10 :: l11 :: l12 :: l13 :: l14 :: l15 :: r) (vI x :: st) u Q :=
  g_istore (i := 15) hd (by show (15 : Nat) < _; simp) (pokS (l := l14) rfl hc) kk
theorem r_astore15 {l0 l1 l2 l3 l4 l5 l6 l7 l8 l9 l10 l11 l12 l13 l14 l15 : Option AV} {r : List (Option AV)} {x : Nat} (hd : decode k.2.1 pc = .ok (.astore 15, 2)) (hc : nlo l14 = true) (kk : V k R cu su (pc + 2) (l0 :: l1 :: l2 :: l3 :: l4 :: l5 :: l6 :: l7 :: l8 :: l9 :: l10 :: l11 :: l12 :: l13 :: l14 :: some (vR (some x)) :: r) st u Q) : V k R cu su pc (l0 :: l1 :: l2 :: l3 :: l4 :: l5 :: l6 :: l7 :: l8 :: l9 :: l10 :: l11 :: l12 :: l13 :: l14 :: l15 :: r) (vR (some x) :: st) u Q :=
  g_astore (i := 15) hd (by show (15 : Nat) < _; simp) (pokS (l := l14) rfl hc) kk
theorem r_astoreN15 {l0 l1 l2 l3 l4 l5 l6 l7 l8 l9 l10 l11 l12 l13 l14 l15 : Option AV} {r : List (Option AV)} (hd : decode k.2.1 pc = .ok (.astore 15, 2)) (hc : nlo l14 = true) (kk : V k R cu su (pc + 2) (l0 :: l1 :: l2 :: l3 :: l4 :: l5 :: l6 :: l7 :: l8 :: l9 :: l10 :: l11 :: l12 :: l13 :: l14 :: some (vR none) :: r) st u Q) : V k R cu su pc (l0 :: l1 :: l2 :: l3 :: l4 :: l5 :: l6 :: l7 :: l8 :: l9 :: l10 :: l11 :: l12 :: l13 :: l14 :: l15 :: r) (vR none :: st) u Q :=
  g_astoreN (i := 15) hd (by show (15 : Nat) < _; simp) (pokS (l := l14) rfl hc) kk
theorem r_iinc15 {l0 l1 l2 l3 l4 l5 l6 l7 l8 l9 l10 l11 l12 l13 l14 : Option AV} {r : List (Option AV)} {x n : Int} (hd : decode k.2.1 pc = .ok (.iinc 15 n, 3)) (hc : nlo l14 = true) (kk : V k R cu su (pc + 3) (l0 :: l1 :: l2 :: l3 :: l4 :: l5 :: l6 :: l7 :: l8 :: l9 :: l10 :: l11 :: l12 :: l13 :: l14 :: some (vI (x + n)) :: r) st u Q) : V k R cu su pc (l0 :: l1 :: l2 :: l3 :: l4 :: l5 :: l6 :: l7 :: l8 :: l9 :: l10 :: l11 :: l12 :: l13 :: l14 :: some (vI x) :: r) st u Q :=
  g_iinc (x := x) hd rfl (pokS (l := l14) rfl hc) kk
theorem r_lstore15 {l0 l1 l2 l3 l4 l5 l6 l7 l8 l9 l10 l11 l12 l13 l14 l15 l16 : Option AV} {r : List (Option AV)} {x : Int} (hd : decode k.2.1 pc = .ok (.lstore 15, 2)) (hc : nlo l14 = true) (kk : V k R cu su (pc + 2) (l0 :: l1 :: l2 :: l3 :: l4 :: l5 :: l6 :: l7 :: l8 :: l9 :: l10 :: l11 :: l12 :: l13 :: l14 :: some (vL x) :: none :: r) st u Q) : V k R cu su pc (l0 :: l1 :: l2 :: l3 :: l4 :: l5 :: l6 :: l7 :: l8 :: l9 :: l10 :: l11 :: l12 :: l13 :: l14 :: l15 :: l16 :: r) (vL x :: st) u Q :=
  g_lstore (i := 15) hd (by show (16 : Nat) < _; simp) (pokS (l := l14) rfl hc) kk
theorem r_dstore15 {l0 l1 l2 l3 l4 l5 l6 l7 l8 l9 l10 l11 l12 l13 l14 l15 l16 : Option AV} {r : List (Option AV)} {x : UInt64} (hd : decode k.2.1 pc = .ok (.dstore 15, 2)) (hc : nlo l14 = true) (kk : V k R cu su (pc + 2) (l0 :: l1 :: l2 :: l3 :: l4 :: l5 :: l6 :: l7 :: l8 :: l9 :: l10 :: l11 :: l12 :: l13 :: l14 :: some (vD x) :: none :: r) st u Q) : V k R cu su pc (l0 :: l1 :: l2 :: l3 :: l4 :: l5 :: l6 :: l7 :: l8 :: l9 :: l10 :: l11 :: l12 :: l13 :: l14 :: l15 :: l16 :: r) (vD x :: st) u Q :=
  g_dstore (i := 15) hd (by show (16 : Nat) < _; simp) (pokS (l := l14) rfl hc) kk
theorem r_istore16 {l0 l1 l2 l3 l4 l5 l6 l7 l8 l9 l10 l11 l12 l13 l14 l15 l16 : Option AV} {r : List (Option AV)} {x : Int} (hd : decode k.2.1 pc = .ok (.istore 16, 2)) (hc : nlo l15 = true) (kk : V k R cu su (pc + 2) (l0 :: l1 :: l2 :: l3 :: l4 :: l5 :: l6 :: l7 :: l8 :: l9 :: l10 :: l11 :: l12 :: l13 :: l14 :: l15 :: some (vI x) :: r) st u Q) : V k R cu su pc (l0 :: l1 :: l2 :: l3 :: l4 :: l5 :: l6 :: l7 :: l8 :: l9 :: l10 :: l11 :: l12 :: l13 :: l14 :: l15 :: l16 :: r) (vI x :: st) u Q :=
  g_istore (i := 16) hd (by show (16 : Nat) < _; simp) (pokS (l := l15) rfl hc) kk
theorem r_astore16 {l0 l1 l2 l3 l4 l5 l6 l7 l8 l9 l10 l11 l12 l13 l14 l15 l16 : Option AV} {r : List (Option AV)} {x : Nat} (hd : decode k.2.1 pc = .ok (.astore 16, 2)) (hc : nlo l15 = true) (kk : V k R cu su (pc + 2) (l0 :: l1 :: l2 :: l3 :: l4 :: l5 :: l6 :: l7 :: l8 :: l9 :: l10 :: l11 :: l12 :: l13 :: l14 :: l15 :: some (vR (some x)) :: r) st u Q) : V k R cu su pc (l0 :: l1 :: l2 :: l3 :: l4 :: l5 :: l6 :: l7 :: l8 :: l9 :: l10 :: l11 :: l12 :: l13 :: l14 :: l15 :: l16 :: r) (vR (some x) :: st) u Q :=
  g_astore (i := 16) hd (by show (16 : Nat) < _; simp) (pokS (l := l15) rfl hc) kk
theorem r_astoreN16 {l0 l1 l2 l3 l4 l5 l6 l7 l8 l9 l10 l11 l12 l13 l14 l15 l16 : Option AV} {r : List (Option AV)} (hd : decode k.2.1 pc = .ok (.astore 16, 2)) (hc : nlo l15 = true) (kk : V k R cu su (pc + 2) (l0 :: l1 :: l2 :: l3 :: l4 :: l5 :: l6 :: l7 :: l8 :: l9 :: l10 :: l11 :: l12 :: l13 :: l14 :: l15 :: some (vR none) :: r) st u Q) : V k R cu su pc (l0 :: l1 :: l2 :: l3 :: l4 :: l5 :: l6 :: l7 :: l8 :: l9 :: l10 :: l11 :: l12 :: l13 :: l14 :: l15 :: l16 :: r) (vR none :: st) u Q :=
  g_astoreN (i := 16) hd (by show (16 : Nat) < _; simp) (pokS (l := l15) rfl hc) kk
theorem r_iinc16 {l0 l1 l2 l3 l4 l5 l6 l7 l8 l9 l10 l11 l12 l13 l14 l15 : Option AV} {r : List (Option AV)} {x n : Int} (hd : decode k.2.1 pc = .ok (.iinc 16 n, 3)) (hc : nlo l15 = true) (kk : V k R cu su (pc + 3) (l0 :: l1 :: l2 :: l3 :: l4 :: l5 :: l6 :: l7 :: l8 :: l9 :: l10 :: l11 :: l12 :: l13 :: l14 :: l15 :: some (vI (x + n)) :: r) st u Q) : V k R cu su pc (l0 :: l1 :: l2 :: l3 :: l4 :: l5 :: l6 :: l7 :: l8 :: l9 :: l10 :: l11 :: l12 :: l13 :: l14 :: l15 :: some (vI x) :: r) st u Q :=
  g_iinc (x := x) hd rfl (pokS (l := l15) rfl hc) kk
theorem r_lstore16 {l0 l1 l2 l3 l4 l5 l6 l7 l8 l9 l10 l11 l12 l13 l14 l15 l16 l17 : Option AV} {r : List (Option AV)} {x : Int} (hd : decode k.2.1 pc = .ok (.lstore 16, 2)) (hc : nlo l15 = true) (kk : V k R cu su (pc + 2) (l0 :: l1 :: l2 :: l3 :: l4 :: l5 :: l6 :: l7 :: l8 :: l9 :: l10 :: l11 :: l12 :: l13 :: l14 :: l15 :: some (vL x) :: none :: r) st u Q) : V k R cu su pc (l0 :: l1 :: l2 :: l3 :: l4 :: l5 :: l6 :: l7 :: l8 :: l9 :: l10 :: l11 :: l12 :: l13 :: l14 :: l15 :: l16 :: l17 :: r) (vL x :: st) u Q :=
  g_lstore (i := 16) hd (by show (17 : Nat) < _; simp) (pokS (l := l15) rfl hc) kk
theorem r_dstore16 {l0 l1 l2 l3 l4 l5 l6 l7 l8 l9 l10 l11 l12 l13 l14 l15 l16 l17 : Option AV} {r : List (Option AV)} {x : UInt64} (hd : decode k.2.1 pc = .ok (.dstore 16, 2)) (hc : nlo l15 = true) (kk : V k R cu su (pc + 2) (l0 :: l1 :: l2 :: l3 :: l4 :: l5 :: l6 :: l7 :: l8 :: l9 :: l10 :: l11 :: l12 :: l13 :: l14 :: l15 :: some (vD x) :: none :: r) st u Q) : V k R cu su pc (l0 :: l1 :: l2 :: l3 :: l4 :: l5 :: l6 :: l7 :: l8 :: l9 :: l10 :: l11 :: l12 :: l13 :: l14 :: l15 :: l16 :: l17 :: r) (vD x :: st) u Q :=
  g_dstore (i := 16) hd (by show (17 : Nat) < _; simp) (pokS (l := l15) rfl hc) kk
theorem r_istore17 {l0 l1 l2 l3 l4 l5 l6 l7 l8 l9 l10 l11 l12 l13 l14 l15 l16 l17 : Option AV} {r : List (Option AV)} {x : Int} (hd : decode k.2.1 pc = .ok (.istore 17, 2)) (hc : nlo l16 = true) (kk : V k R cu su (pc + 2) (l0 :: l1 :: l2 :: l3 :: l4 :: l5 :: l6 :: l7 :: l8 :: l9 :: l10 :: l11 :: l12 :: l13 :: l14 :: l15 :: l16 :: some (vI x) :: r) st u Q) : V k R cu su pc (l0 :: l1 :: l2 :: l3 :: l4 :: l5 :: l6 :: l7 :: l8 :: l9 :: l10 :: l11 :: l12 :: l13 :: l14 :: l15 :: l16 :: l17 :: r) (vI x :: st) u Q :=
  g_istore (i := 17) hd (by show (17 : Nat) < _; simp) (pokS (l := l16) rfl hc) kk
theorem r_astore17 {l0 l1 l2 l3 l4 l5 l6 l7 l8 l9 l10 l11 l12 l13 l14 l15 l16 l17 : Option AV} {r : List (Option AV)} {x : Nat} (hd : decode k.2.1 pc = .ok (.astore 17, 2)) (hc : nlo l16 = true) (kk : V k R cu su (pc + 2) (l0 :: l1 :: l2 :: l3 :: l4 :: l5 :: l6 :: l7 :: l8 :: l9 :: l10 :: l11 :: l12 :: l13 :: l14 :: l15 :: l16 :: some (vR (some x)) :: r) st u Q) : V k R cu su pc (l0 :: l1 :: l2 :: l3 :: l4 :: l5 :: l6 :: l7 :: l8 :: l9 :: l10 :: l11 :: l12 :: l13 :: l14 :: l15 :: l16 :: l17 :: r) (vR (some x) :: st) u Q :=
  g_astore (i := 17) hd (by show (17 : Nat) < _; simp) (pokS (l := l16) rfl hc) kk
theorem r_astoreN17 {l0 l1 l2 l3 l4 l5 l6 l7 l8 l9 l10 l11 l12 l13 l14 l15 l16 l17 : Option AV} {r : List (Option AV)} (hd : decode k.2.1 pc = .ok (.astore 17, 2)) (hc : nlo l16 = true) (kk : V k R cu su (pc + 2) (l0 :: l1 :: l2 :: l3 :: l4 :: l5 :: l6 :: l7 :: l8 :: l9 :: l10 :: l11 :: l12 :: l13 :: l14 :: l15 :: l16 :: some (vR none) :: r) st u Q) : V k R cu su pc (l0 :: l1 :: l2 :: l3 :: l4 :: l5 :: l6 :: l7 :: l8 :: l9 :: l10 :: l11 :: l12 :: l13 :: l14 :: l15 :: l16 :: l17 :: r) (vR none :: st) u Q :=
  g_astoreN (i := 17) hd (by show (17 : Nat) < _; simp) (pokS (l := l16) rfl hc) kk
theorem r_iinc17 {l0 l1 l2 l3 l4 l5 l6 l7 l8 l9 l10 l11 l12 l13 l14 l15 l16 : Option AV} {r : List (Option AV)} {x n : Int} (hd : decode k.2.1 pc = .ok (.iinc 17 n, 3)) (hc : nlo l16 = true) (kk : V k R cu su (pc + 3) (l0 :: l1 :: l2 :: l3 :: l4 :: l5 :: l6 :: l7 :: l8 :: l9 :: l10 :: l11 :: l12 :: l13 :: l14 :: l15 :: l16 :: some (vI (x + n)) :: r) st u Q) : V k R cu su pc (l0 :: l1 :: l2 :: l3 :: l4 :: l5 :: l6 :: l7 :: l8 :: l9 :: l10 :: l11 :: l12 :: l13 :: l14 :: l15 :: l16 :: some (vI x) :: r) st u Q :=
  g_iinc (x := x) hd rfl (pokS (l := l16) rfl hc) kk
theorem r_lstore17 {l0 l1 l2 l3 l4 l5 l6 l7 l8 l9 l10 l11 l12 l13 l14 l15 l16 l17 l18 : Option AV} {r : List (Option AV)} {x : Int} (hd : decode k.2.1 pc = .ok (.lstore 17, 2)) (hc : nlo l16 = true) (kk : V k R cu su (pc + 2) (l0 :: l1 :: l2 :: l3 :: l4 :: l5 :: l6 :: l7 :: l8 :: l9 :: l10 :: l11 :: l12 :: l13 :: l14 :: l15 :: l16 :: some (vL x) :: none :: r) st u Q) : V k R cu su pc (l0 :: l1 :: l2 :: l3 :: l4 :: l5 :: l6 :: l7 :: l8 :: l9 :: l10 :: l11 :: l12 :: l13 :: l14 :: l15 :: l16 :: l17 :: l18 :: r) (vL x :: st) u Q :=
  g_lstore (i := 17) hd (by show (18 : Nat) < _; simp) (pokS (l := l16) rfl hc) kk
theorem r_dstore17 {l0 l1 l2 l3 l4 l5 l6 l7 l8 l9 l10 l11 l12 l13 l14 l15 l16 l17 l18 : Option AV} {r : List (Option AV)} {x : UInt64} (hd : decode k.2.1 pc = .ok (.dstore 17, 2)) (hc : nlo l16 = true) (kk : V k R cu su (pc + 2) (l0 :: l1 :: l2 :: l3 :: l4 :: l5 :: l6 :: l7 :: l8 :: l9 :: l10 :: l11 :: l12 :: l13 :: l14 :: l15 :: l16 :: some (vD x) :: none :: r) st u Q) : V k R cu su pc (l0 :: l1 :: l2 :: l3 :: l4 :: l5 :: l6 :: l7 :: l8 :: l9 :: l10 :: l11 :: l12 :: l13 :: l14 :: l15 :: l16 :: l17 :: l18 :: r) (vD x :: st) u Q :=
  g_dstore (i := 17) hd (by show (18 : Nat) < _; simp) (pokS (l := l16) rfl hc) kk
theorem r_istore18 {l0 l1 l2 l3 l4 l5 l6 l7 l8 l9 l10 l11 l12 l13 l14 l15 l16 l17 l18 : Option AV} {r : List (Option AV)} {x : Int} (hd : decode k.2.1 pc = .ok (.istore 18, 2)) (hc : nlo l17 = true) (kk : V k R cu su (pc + 2) (l0 :: l1 :: l2 :: l3 :: l4 :: l5 :: l6 :: l7 :: l8 :: l9 :: l10 :: l11 :: l12 :: l13 :: l14 :: l15 :: l16 :: l17 :: some (vI x) :: r) st u Q) : V k R cu su pc (l0 :: l1 :: l2 :: l3 :: l4 :: l5 :: l6 :: l7 :: l8 :: l9 :: l10 :: l11 :: l12 :: l13 :: l14 :: l15 :: l16 :: l17 :: l18 :: r) (vI x :: st) u Q :=
  g_istore (i := 18) hd (by show (18 : Nat) < _; simp) (pokS (l := l17) rfl hc) kk
theorem r_astore18 {l0 l1 l2 l3 l4 l5 l6 l7 l8 l9 l10 l11 l12 l13 l14 l15 l16 l17 l18 : Option AV} {r : List (Option AV)} {x : Nat} (hd : decode k.2.1 pc = .ok (.astore 18, 2)) (hc : nlo l17 = true) (kk : V k R cu su (pc + 2) (l0 :: l1 :: l2 :: l3 :: l4 :: l5 :: l6 :: l7 :: l8 :: l9 :: l10 :: l11 :: l12 :: l13 :: l14 :: l15 :: l16 :: l17 :: some (vR (some x)) :: r) st u Q) : V k R cu su pc (l0 :: l1 :: l2 :: l3 :: l4 :: l5 :: l6 :: l7 :: l8 :: l9 :: l10 :: l11 :: l12 :: l13 :: l14 :: l15 :: l16 :: l17 :: l18 :: r) (vR (some x) :: st) u Q :=
  g_astore (i := 18) hd (by show (18 : Nat) < _; simp) (pokS (l := l17) rfl hc) kk
theorem r_astoreN18 {l0 l1 l2 l3 l4 l5 l6 l7 l8 l9 l10 l11 l12 l13 l14 l15 l16 l17 l18 : Option AV} {r : List (Option AV)} (hd : decode k.2.1 pc = .ok (.astore 18, 2)) (hc : nlo l17 = true) (kk : V k R cu su (pc + 2) (l0 :: l1 :: l2 :: l3 :: l4 :: l5 :: l6 :: l7 :: l8 :: l9 :: l10 :: l11 :: l12 :: l13 :: l14 :: l15 :: l16 :: l17 :: some (vR none) :: r) st u Q) : V k R cu su pc (l0 :: l1 :: l2 :: l3 :: l4 :: l5 :: l6 :: l7 :: l8 :: l9 :: l10 :: l11 :: l12 :: l13 :: l14 :: l15 :: l16 :: l17 :: l18 :: r) (vR none :: st) u Q :=
  g_astoreN (i := 18) hd (by show (18 : Nat) < _; simp) (pokS (l := l17) rfl hc) kk
theorem r_iinc18 {l0 l1 l2 l3 l4 l5 l6 l7 l8 l9 l10 l11 l12 l13 l14 l15 l16 l17 : Option AV} {r : List (Option AV)} {x n : Int} (hd : decode k.2.1 pc = .ok (.iinc 18 n, 3)) (hc : nlo l17 = true) (kk : V k R cu su (pc + 3) (l0 :: l1 :: l2 :: l3 :: l4 :: l5 :: l6 :: l7 :: l8 :: l9 :: l10 :: l11 :: l12 :: l13 :: l14 :: l15 :: l16 :: l17 :: some (vI (x + n)) :: r) st u Q) : V k R cu su pc (l0 :: l1 :: l2 :: l3 :: l4 :: l5 :: l6 :: l7 :: l8 :: l9 :: l10 :: l11 :: l12 :: l13 :: l14 :: l15 :: l16 :: l17 :: some (vI x) :: r) st u Q :=
  g_iinc (x := x) hd rfl (pokS (l := l17) rfl hc) kk
theorem r_lstore18 {l0 l1 l2 l3 l4 l5 l6 l7 l8 l9 l10 l11 l12 l13 l14 l15 l16 l17 l18 l19 : Option AV} {r : List (Option AV)} {x : Int} (hd : decode k.2.1 pc = .ok (.lstore 18, 2)) (hc : nlo l17 = true) (kk : V k R cu su (pc + 2) (l0 :: l1 :: l2 :: l3 :: l4 :: l5 :: l6 :: l7 :: l8 :: l9 :: l10 :: l11 :: l12 :: l13 :: l14 :: l15 :: l16 :: l17 :: some (vL x) :: none :: r) st u Q) : V k R cu su pc (l0 :: l1 :: l2 :: l3 :: l4 :: l5 :: l6 :: l7 :: l8 :: l9 :: l10 :: l11 :: l12 :: l13 :: l14 :: l15 :: l16 :: l17 :: l18 :: l19 :: r) (vL x :: st) u Q :=
  g_lstore (i := 18) hd (by show (19 : Nat) < _; simp) (pokS (l := l17) rfl hc) kk
theorem r_dstore18 {l0 l1 l2 l3 l4 l5 l6 l7 l8 l9 l10 l11 l12 l13 l14 l15 l16 l17 l18 l19 : Option AV} {r : List (Option AV)} {x : UInt64} (hd : decode k.2.1 pc = .ok (.dstore 18, 2)) (hc : nlo l17 = true) (kk : V k R cu su (pc + 2) (l0 :: l1 :: l2 :: l3 :: l4 :: l5 :: l6 :: l7 :: l8 :: l9 :: l10 :: l11 :: l12 :: l13 :: l14 :: l15 :: l16 :: l17 :: some (vD x) :: none :: r) st u Q) : V k R cu su pc (l0 :: l1 :: l2 :: l3 :: l4 :: l5 :: l6 :: l7 :: l8 :: l9 :: l10 :: l11 :: l12 :: l13 :: l14 :: l15 :: l16 :: l17 :: l18 :: l19 :: r) (vD x :: st) u Q :=
  g_dstore (i := 18) hd (by show (19 : Nat) < _; simp) (pokS (l := l17) rfl hc) kk
theorem r_istore19 {l0 l1 l2 l3 l4 l5 l6 l7 l8 l9 l10 l11 l12 l13 l14 l15 l16 l17 l18 l19 : Option AV} {r : List (Option AV)} {x : Int} (hd : decode k.2.1 pc = .ok (.istore 19, 2)) (hc : nlo l18 = true) (kk : V k R cu su (pc + 2) (l0 :: l1 :: l2 :: l3 :: l4 :: l5 :: l6 :: l7 :: l8 :: l9 :: l10 :: l11 :: l12 :: l13 :: l14 :: l15 :: l16 :: l17 :: l18 :: some (vI x) :: r) st u Q) : V k R cu su pc (l0 :: l1 :: l2 :: l3 :: l4 :: l5 :: l6 :: l7 :: l8 :: l9 :: l10 :: l11 :: l12 :: l13 :: l14 :: l15 :: l16 :: l17 :: l18 :: l19 :: r) (vI x :: st) u Q :=
  g_istore (i := 19) hd (by show (19 : Nat) < _; simp) (pokS (l := l18) rfl hc) kk
theorem r_astore19 {l0 l1 l2 l3 l4 l5 l6 l7 l8 l9 l10 l11 l12 l13 l14 l15 l16 l17 l18 l19 : Option AV} {r : List (Option AV)} {x : Nat} (hd : decode k.2.1 pc = .ok (.astore 19, 2)) (hc : nlo l18 = true) (kk : V k R cu su (pc + 2) (l0 :: l1 :: l2 :: l3 :: l4 :: l5 :: l6 :: l7 :: l8 :: l9 :: l10 :: l11 :: l12 :: l13 :: l14 :: l15 :: l16 :: l17 :: l18 :: some (vR (some x)) :: r) st u Q) : V k R cu su pc (l0 :: l1 :: l2 :: l3 :: l4 :: l5 :: l6 :: l7 :: l8 :: l9 :: l10 :: l11 :: l12 :: l13 :: l14 :: l15 :: l16 :: l17 :: l18 :: l19 :: r) (vR (some x) :: st) u Q :=
  g_astore (i := 19) hd (by show (19 : Nat) < _; simp) (pokS (l := l18) rfl hc) kk
theorem r_astoreN19 {l0 l1 l2 l3 l4 l5 l6 l7 l8 l9 l10 l11 l12 l13 l14 l15 l16 l17 l18 l19 : Option AV} {r : List (Option AV)} (hd : decode k.2.1 pc = .ok (.astore 19, 2)) (hc : nlo l18 = true) (kk : V k R cu su (pc + 2) (l0 :: l1 :: l2 :: l3 :: l4 :: l5 :: l6 :: l7 :: l8 :: l9 :: l10 :: l11 :: l12 :: l13 :: l14 :: l15 :: l16 :: l17 :: l18 :: some (vR none) :: r) st u Q) : V k R cu su pc (l0 :: l1 :: l2 :: l3 :: l4 :: l5 :: l6 :: l7 :: l8 :: l9 :: l10 :: l11 :: l12 :: l13 :: l14 :: l15 :: l16 :: l17 :: l18 :: l19 :: r) (vR none :: st) u Q :=
  g_astoreN (i := 19) hd (by show (19 : Nat) < _; simp) (pokS (l := l18) rfl hc) kk
theorem r_iinc19 {l0 l1 l2 l3 l4 l5 l6 l7 l8 l9 l10 l11 l12 l13 l14 l15 l16 l17 l18 : Option AV} {r : List (Option AV)} {x n : Int} (hd : decode k.2.1 pc = .ok (.iinc 19 n, 3)) (hc : nlo l18 = true) (kk : V k R cu su (pc + 3) (l0 :: l1 :: l2 :: l3 :: l4 :: l5 :: l6 :: l7 :: l8 :: l9 :: l10 :: l11 :: l12 :: l13 :: l14 :: l15 :: l16 :: l17 :: l18 :: some (vI (x + n)) :: r) st u Q) : V k R cu su pc (l0 :: l1 :: l2 :: l3 :: l4 :: l5 :: l6 :: l7 :: l8 :: l9 :: l10 :: l11 :: l12 :: l13 :: l14 :: l15 :: l16 :: l17 :: l18 :: some (vI x) :: r) st u Q :=
  g_iinc (x := x) hd rfl (pokS (l := l18) rfl hc) kk
theorem r_lstore19 {l0 l1 l2 l3 l4 l5 l6 l7 l8 l9 l10 l11 l12 l13 l14 l15 l16 l17 l18 l19 l20 : Option AV} {r : List (Option AV)} {x : Int} (hd : decode k.2.1 pc = .ok (.lstore 19, 2)) (hc : nlo l18 = true) (kk : V k R cu su (pc + 2) (l0 :: l1 :: l2 :: l3 :: l4 :: l5 :: l6 :: l7 :: l8 :: l9 :: l10 :: l11 :: l12 :: l13 :: l14 :: l15 :: l16 :: l17 :: l18 :: some (vL x) :: none :: r) st u Q) : V k R cu su pc (l0 :: l1 :: l2 :: l3 :: l4 :: l5 :: l6 :: l7 :: l8 :: l9 :: l10 :: l11 :: l12 :: l13 :: l14 :: l15 :: l16 :: l17 :: l18 :: l19 :: l20 :: r) (vL x :: st) u Q :=
  g_lstore (i := 19) hd (by show (20 : Nat) < _; simp) (pokS (l := l18) rfl hc) kk
theorem r_dstore19 {l0 l1 l2 l3 l4 l5 l6 l7 l8 l9 l10 l11 l12 l13 l14 l15 l16 l17 l18 l19 l20 : Option AV} {r : List (Option AV)} {x : UInt64} (hd : decode k.2.1 pc = .ok (.dstore 19, 2)) (hc : nlo l18 = true) (kk : V k R cu su (pc + 2) (l0 :: l1 :: l2 :: l3 :: l4 :: l5 :: l6 :: l7 :: l8 :: l9 :: l10 :: l11 :: l12 :: l13 :: l14 :: l15 :: l16 :: l17 :: l18 :: some (vD x) :: none :: r) st u Q) : V k R cu su pc (l0 :: l1 :: l2 :: l3 :: l4 :: l5 :: l6 :: l7 :: l8 :: l9 :: l10 :: l11 :: l12 :: l13 :: l14 :: l15 :: l16 :: l17 :: l18 :: l19 :: l20 :: r) (vD x :: st) u Q :=
  g_dstore (i := 19) hd (by show (20 : Nat) < _; simp) (pokS (l := l18) rfl hc) kk
theorem r_istore20 {l0 l1 l2 l3 l4 l5 l6 l7 l8 l9 l10 l11 l12 l13 l14 l15 l16 l17 l18 l19 l20 : Option AV} {r : List (Option AV)} {x : Int} (hd : decode k.2.1 pc = .ok (.istore 20, 2)) (hc : nlo l19 = true) (kk : V k R cu su (pc + 2) (l0 :: l1 :: l2 :: l3 :: l4 :: l5 :: l6 :: l7 :: l8 :: l9 :: l10 :: l11 :: l12 :: l13 :: l14 :: l15 :: l16 :: l17 :: l18 :: l19 :: some (vI x) :: r) st u Q) : V k R cu su pc (l0 :: l1 :: l2 :: l3 :: l4 :: l5 :: l6 :: l7 :: l8 :: l9 :: l10 :: l11 :: l12 :: l13 :: l14 :: l15 :: l16 :: l17 :: l18 :: l19 :: l20 :: r) (vI x :: st) u Q :=
  g_istore (i := 20) hd (by show (20 : Nat) < _; simp) (pokS (l := l19) rfl hc) kk
theorem r_astore20 {l0 l1 l2 l3 l4 l5 l6 l7 l8 l9 l10 l11 l12 l13 l14 l15 l16 l17 l18 l19 l20 : Option AV} {r : List (Option AV)} {x : Nat} (hd : decode k.2.1 pc = .ok (.astore 20, 2)) (hc : nlo l19 = true) (kk : V k R cu su (pc + 2) (l0 :: l1 :: l2 :: l3 :: l4 :: l5 :: l6 :: l7 :: l8 :: l9 :: l10 :: l11 :: l12 :: l13 :: l14 :: l15 :: l16 :: l17 :: l18 :: l19 :: some (vR (some x)) :: r) st u Q) : V k R cu su pc (l0 :: l1 :: l2 :: l3 :: l4 :: l5 :: l6 :: l7 :: l8 :: l9 :: l10 :: l11 :: l12 :: l13 :: l14 :: l15 :: l16 :: l17 :: l18 :: l19 :: l20 :: r) (vR (some x) :: st) u Q :=
  g_astore (i := 20) hd (by show (20 : Nat) < _; simp) (pokS (l := l19) rfl hc) kk
theorem r_astoreN20 {l0 l1 l2 l3 l4 l5 l6 l7 l8 l9 l10 l11 l12 l13 l14 l15 l16 l17 l18 l19 l20 : Option AV} {r : List (Option AV)} (hd : decode k.2.1 pc = .ok (.astore 20, 2)) (hc : nlo l19 = true) (kk : V k R cu su (pc + 2) (l0 :: l1 :: l2 :: l3 :: l4 :: l5 :: l6 :: l7 :: l8 :: l9 :: l10 :: l11 :: l12 :: l13 :: l14 :: l15 :: l16 :: l17 :: l18 :: l19 :: some (vR none) :: r) st u Q) : V k R cu su pc (l0 :: l1 :: l2 :: l3 :: l4 :: l5 :: l6 :: l7 :: l8 :: l9 :: l10 :: l11 :: l12 :: l13 :: l14 :: l15 :: l16 :: l17 :: l18 :: l19 :: l20 :: r) (vR none :: st) u Q :=
  g_astoreN (i := 20) hd (by show (20 : Nat) < _; simp) (pokS (l := l19) rfl hc) kk
theorem r_iinc20 {l0 l1 l2 l3 l4 l5 l6 l7 l8 l9 l10 l11 l12 l13 l14 l15 l16 l17 l18 l19 : Option AV} {r : List (Option AV)} {x n : Int} (hd : decode k.2.1 pc = .ok (.iinc 20 n, 3)) (hc : nlo l19 = true) (kk : V k R cu su (pc + 3) (l0 :: l1 :: l2 :: l3 :: l4 :: l5 :: l6 :: l7 :: l8 :: l9 :: l10 :: l11 :: l12 :: l13 :: l14 :: l15 :: l16 :: l17 :: l18 :: l19 :: some (vI (x + n)) :: r) st u Q) : V k R cu su pc (l0 :: l1 :: l2 :: l3 :: l4 :: l5 :: l6 :: l7 :: l8 :: l9 :: l10 :: l11 :: l12 :: l13 :: l14 :: l15 :: l16 :: l17 :: l18 :: l19 :: some (vI x) :: r) st u Q :=
  g_iinc (x := x) hd rfl (pokS (l := l19) rfl hc) kk
theorem r_lstore20 {l0 l1 l2 l3 l4 l5 l6 l7 l8 l9 l10 l11 l12 l13 l14 l15 l16 l17 l18 l19 l20 l21 : Option AV} {r : List (Option AV)} {x : Int} (hd : decode k.2.1 pc = .ok (.lstore 20, 2)) (hc : nlo l19 = true) (kk : V k R cu su (pc + 2) (l0 :: l1 :: l2 :: l3 :: l4 :: l5 :: l6 :: l7 :: l8 :: l9 :: l10 :: l11 :: l12 :: l13 :: l14 :: l15 :: l16 :: l17 :: l18 :: l19 :: some (vL x) :: none :: r) st u Q) : V k R cu su pc (l0 :: l1 :: l2 :: l3 :: l4 :: l5 :: l6 :: l7 :: l8 :: l9 :: l10 :: l11 :: l12 :: l13 :: l14 :: l15 :: l16 :: l17 :: l18 :: l19 :: l20 :: l21 :: r) (vL x :: st) u Q :=
  g_lstore (i := 20) hd (by show (21 : Nat) < _; simp) (pokS (l := l19) rfl hc) kk
theorem r_dstore20 {l0 l1 l2 l3 l4 l5 l6 l7 l8 l9 l10 l11 l12 l13 l14 l15 l16 l17 l18 l19 l20 l21 : Option AV} {r : List (Option AV)} {x : UInt64} (hd : decode k.2.1 pc = .ok (.dstore 20, 2)) (hc : nlo l19 = true) (kk : V k R cu su (pc + 2) (l0 :: l1 :: l2 :: l3 :: l4 :: l5 :: l6 :: l7 :: l8 :: l9 :: l10 :: l11 :: l12 :: l13 :: l14 :: l15 :: l16 :: l17 :: l18 :: l19 :: some (vD x) :: none :: r) st u Q) : V k R cu su pc (l0 :: l1 :: l2 :: l3 :: l4 :: l5 :: l6 :: l7 :: l8 :: l9 :: l10 :: l11 :: l12 :: l13 :: l14 :: l15 :: l16 :: l17 :: l18 :: l19 :: l20 :: l21 :: r) (vD x :: st) u Q :=
  g_dstore (i := 20) hd (by show (21 : Nat) < _; simp) (pokS (l := l19) rfl hc) kk
theorem r_istore21 {l0 l1 l2 l3 l4 l5 l6 l7 l8 l9 l10 l11 l12 l13 l14 l15 l16 l17 l18 l19 l20 l21 : Option AV} {r : List (Option AV)} {x : Int} (hd : decode k.2.1 pc = .ok (.istore 21, 2)) (hc : nlo l20 = true) (kk : V k R cu su (pc + 2) (l0 :: l1 :: l2 :: l3 :: l4 :: l5 :: l6 :: l7 :: l8 :: l9 :: l10 :: l11 :: l12 :: l13 :: l14 :: l15 :: l16 :: l17 :: l18 :: l19 :: l20 :: some (vI x) :: r) st u Q) : V k R cu su pc (l0 :: l1 :: l2 :: l3 :: l4 :: l5 :: l6 :: l7 :: l8 :: l9 :: l10 :: l11 :: l12 :: l13 :: l14 :: l15 :: l16 :: l17 :: l18 :: l19 :: l20 :: l21 :: r) (vI x :: st) u Q :=
  g_istore (i := 21) hd (by show (21 : Nat) < _; simp) (pokS (l := l20) rfl hc) kk
theorem r_astore21 {l0 l1 l2 l3 l4 l5 l6 l7 l8 l9 l10 l11 l12 l13 l14 l15 l16 l17 l18 l19 l20 l21 : Option AV} {r : List (Option AV)} {x : Nat} (hd : decode k.2.1 pc = .ok (.astore 21, 2)) (hc : nlo l20 = true) (kk : V k R cu su (pc + 2) (l0 :: l1 :: l2 :: l3 :: l4 :: l5 :: l6 :: l7 :: l8 :: l9 :: l10 :: l11 :: l12 :: l13 :: l14 :: l15 :: l16 :: l17 :: l18 :: l19 :: l20 :: some (vR (some x)) :: r) st u Q) : V k R cu su pc (l0 :: l1 :: l2 :: l3 :: l4 :: l5 :: l6 :: l7 :: l8 :: l9 :: l10 :: l11 :: l12 :: l13 :: l14 :: l15 :: l16 :: l17 :: l18 :: l19 :: l20 :: l21 :: r) (vR (some x) :: st) u Q :=
  g_astore (i := 21) hd (by show (21 : Nat) < _; simp) (pokS (l := l20) rfl hc) kk
theorem r_astoreN21 {l0 l1 l2 l3 l4 l5 l6 l7 l8 l9 l10 l11 l12 l13 l14 l15 l16 l17 l18 l19 l20 l21 : Option AV} {r : List (Option AV)} (hd : decode k.2.1 pc = .ok (.astore 21, 2)) (hc : nlo l20 = true) (kk : V k R cu su (pc + 2) (l0 :: l1 :: l2 :: l3 :: l4 :: l5 :: l6 :: l7 :: l8 :: l9 :: l10 :: l11 :: l12 :: l13 :: l14 :: l15 :: l16 :: l17 :: l18 :: l19 :: l20 :: some (vR none) :: r) st u Q) : V k R cu su pc (l0 :: l1 :: l2 :: l3 :: l4 :: l5 :: l6 :: l7 :: l8 :: l9 :: l10 :: l11 :: l12 :: l13 :: l14 :: l15 :: l16 :: l17 :: l18 :: l19 :: l20 :: l21 :: r) (vR none :: st) u Q :=
  g_astoreN (i := 21) hd (by show (21 : Nat) < _; simp) (pokS (l := l20) rfl hc) kk
theorem r_iinc21 {l0 l1 l2 l3 l4 l5 l6 l7 l8 l9 l10 l11 l12 l13 l14 l15 l16 l17 l18 l19 l20 : Option AV} {r : List (Option AV)} {x n : Int} (hd : decode k.2.1 pc = .ok (.iinc 21 n, 3)) (hc : nlo l20 = true) (kk : V k R cu su (pc + 3) (l0 :: l1 :: l2 :: l3 :: l4 :: l5 :: l6 :: l7 :: l8 :: l9 :: l10 :: l11 :: l12 :: l13 :: l14 :: l15 :: l16 :: l17 :: l18 :: l19 :: l20 :: some (vI (x + n)) :: r) st u Q) : V k R cu su pc (l0 :: l1 :: l2 :: l3 :: l4 :: l5 :: l6 :: l7 :: l8 :: l9 :: l10 :: l11 :: l12 :: l13 :: l14 :: l15 :: l16 :: l17 :: l18 :: l19 :: l20 :: some (vI x) :: r) st u Q :=
  g_iinc (x := x) hd rfl (pokS (l := l20) rfl hc) kk
end
