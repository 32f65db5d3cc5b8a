section KNR
variable {X : kn_X} {M : kn_M} {pc : Nat} {lv : kn_L} {σ : kn_S} {τ : kn_T} {z : kn_Z} {c n : Nat} {Q : kn_Q}
theorem k_iadd {x y : Int32} {st : List Value} (hd : decode M.2.1 pc = .ok (.iadd, 1)) (k : kn_Go X M (pc + 1) lv (.int (x + y) :: st) σ τ z c n Q) : kn_Go X M pc lv (.int y :: .int x :: st) σ τ z c n Q := by
  intro D cs z0 ar p l e R s m args below meth cd n0 a0 mc ms QF Cx ad H locs ls cells slots hA
  exact lv_iadd Cx.1.1.1 Cx.1.1.2.1 hd (k D cs z0 ar p l e R s m args below meth cd n0 a0 mc ms QF Cx ad H locs ls cells slots hA)
theorem k_isub {x y : Int32} {st : List Value} (hd : decode M.2.1 pc = .ok (.isub, 1)) (k : kn_Go X M (pc + 1) lv (.int (x - y) :: st) σ τ z c n Q) : kn_Go X M pc lv (.int y :: .int x :: st) σ τ z c n Q := by
  intro D cs z0 ar p l e R s m args below meth cd n0 a0 mc ms QF Cx ad H locs ls cells slots hA
  exact lv_isub Cx.1.1.1 Cx.1.1.2.1 hd (k D cs z0 ar p l e R s m args below meth cd n0 a0 mc ms QF Cx ad H locs ls cells slots hA)
theorem k_imul {x y : Int32} {st : List Value} (hd : decode M.2.1 pc = .ok (.imul, 1)) (k : kn_Go X M (pc + 1) lv (.int (x * y) :: st) σ τ z c n Q) : kn_Go X M pc lv (.int y :: .int x :: st) σ τ z c n Q := by
  intro D cs z0 ar p l e R s m args below meth cd n0 a0 mc ms QF Cx ad H locs ls cells slots hA
  exact lv_imul Cx.1.1.1 Cx.1.1.2.1 hd (k D cs z0 ar p l e R s m args below meth cd n0 a0 mc ms QF Cx ad H locs ls cells slots hA)
theorem k_iand {x y : Int32} {st : List Value} (hd : decode M.2.1 pc = .ok (.iand, 1)) (k : kn_Go X M (pc + 1) lv (.int (x &&& y) :: st) σ τ z c n Q) : kn_Go X M pc lv (.int y :: .int x :: st) σ τ z c n Q := by
  intro D cs z0 ar p l e R s m args below meth cd n0 a0 mc ms QF Cx ad H locs ls cells slots hA
  exact lv_iand Cx.1.1.1 Cx.1.1.2.1 hd (k D cs z0 ar p l e R s m args below meth cd n0 a0 mc ms QF Cx ad H locs ls cells slots hA)
theorem k_ixor {x y : Int32} {st : List Value} (hd : decode M.2.1 pc = .ok (.ixor, 1)) (k : kn_Go X M (pc + 1) lv (.int (x ^^^ y) :: st) σ τ z c n Q) : kn_Go X M pc lv (.int y :: .int x :: st) σ τ z c n Q := by
  intro D cs z0 ar p l e R s m args below meth cd n0 a0 mc ms QF Cx ad H locs ls cells slots hA
  exact lv_ixor Cx.1.1.1 Cx.1.1.2.1 hd (k D cs z0 ar p l e R s m args below meth cd n0 a0 mc ms QF Cx ad H locs ls cells slots hA)
theorem k_idiv {x y : Int32} {st : List Value} (hd : decode M.2.1 pc = .ok (.idiv, 1)) (hne : ¬ y = 0) (k : kn_Go X M (pc + 1) lv (.int (x / y) :: st) σ τ z c n Q) : kn_Go X M pc lv (.int y :: .int x :: st) σ τ z c n Q := by
  intro D cs z0 ar p l e R s m args below meth cd n0 a0 mc ms QF Cx ad H locs ls cells slots hA
  exact lv_idiv Cx.1.1.1 Cx.1.1.2.1 hd hne (k D cs z0 ar p l e R s m args below meth cd n0 a0 mc ms QF Cx ad H locs ls cells slots hA)
theorem k_irem {x y : Int32} {st : List Value} (hd : decode M.2.1 pc = .ok (.irem, 1)) (hne : ¬ y = 0) (k : kn_Go X M (pc + 1) lv (.int (x - x / y * y) :: st) σ τ z c n Q) : kn_Go X M pc lv (.int y :: .int x :: st) σ τ z c n Q := by
  intro D cs z0 ar p l e R s m args below meth cd n0 a0 mc ms QF Cx ad H locs ls cells slots hA
  exact lv_irem Cx.1.1.1 Cx.1.1.2.1 hd hne (k D cs z0 ar p l e R s m args below meth cd n0 a0 mc ms QF Cx ad H locs ls cells slots hA)
theorem k_ladd {x y : Int64} {st : List Value} (hd : decode M.2.1 pc = .ok (.ladd, 1)) (k : kn_Go X M (pc + 1) lv (.long (x + y) :: st) σ τ z c n Q) : kn_Go X M pc lv (.long y :: .long x :: st) σ τ z c n Q := by
  intro D cs z0 ar p l e R s m args below meth cd n0 a0 mc ms QF Cx ad H locs ls cells slots hA
  exact lv_ladd Cx.1.1.1 Cx.1.1.2.1 hd (k D cs z0 ar p l e R s m args below meth cd n0 a0 mc ms QF Cx ad H locs ls cells slots hA)
theorem k_lmul {x y : Int64} {st : List Value} (hd : decode M.2.1 pc = .ok (.lmul, 1)) (k : kn_Go X M (pc + 1) lv (.long (x * y) :: st) σ τ z c n Q) : kn_Go X M pc lv (.long y :: .long x :: st) σ τ z c n Q := by
  intro D cs z0 ar p l e R s m args below meth cd n0 a0 mc ms QF Cx ad H locs ls cells slots hA
  exact lv_lmul Cx.1.1.1 Cx.1.1.2.1 hd (k D cs z0 ar p l e R s m args below meth cd n0 a0 mc ms QF Cx ad H locs ls cells slots hA)
theorem k_lrem {x y : Int64} {st : List Value} (hd : decode M.2.1 pc = .ok (.lrem, 1)) (hne : ¬ y = 0) (k : kn_Go X M (pc + 1) lv (.long (x - x / y * y) :: st) σ τ z c n Q) : kn_Go X M pc lv (.long y :: .long x :: st) σ τ z c n Q := by
  intro D cs z0 ar p l e R s m args below meth cd n0 a0 mc ms QF Cx ad H locs ls cells slots hA
  exact lv_lrem Cx.1.1.1 Cx.1.1.2.1 hd hne (k D cs z0 ar p l e R s m args below meth cd n0 a0 mc ms QF Cx ad H locs ls cells slots hA)
theorem k_lcmp {x y : Int64} {st : List Value} (hd : decode M.2.1 pc = .ok (.lcmp, 1)) (k : kn_Go X M (pc + 1) lv (.int (lg_cmp x y) :: st) σ τ z c n Q) : kn_Go X M pc lv (.long y :: .long x :: st) σ τ z c n Q := by
  intro D cs z0 ar p l e R s m args below meth cd n0 a0 mc ms QF Cx ad H locs ls cells slots hA
  exact W.lcmp Cx.1.1.1 Cx.1.1.2.1 hd (k D cs z0 ar p l e R s m args below meth cd n0 a0 mc ms QF Cx ad H locs ls cells slots hA)
theorem k_i2l {x : Int32} {st : List Value} (hd : decode M.2.1 pc = .ok (.i2l, 1)) (k : kn_Go X M (pc + 1) lv (.long x.toInt64 :: st) σ τ z c n Q) : kn_Go X M pc lv (.int x :: st) σ τ z c n Q := by
  intro D cs z0 ar p l e R s m args below meth cd n0 a0 mc ms QF Cx ad H locs ls cells slots hA
  exact lv_i2l Cx.1.1.1 Cx.1.1.2.1 hd rfl (k D cs z0 ar p l e R s m args below meth cd n0 a0 mc ms QF Cx ad H locs ls cells slots hA)
theorem k_l2i {x : Int64} {st : List Value} (hd : decode M.2.1 pc = .ok (.l2i, 1)) (k : kn_Go X M (pc + 1) lv (.int x.toInt32 :: st) σ τ z c n Q) : kn_Go X M pc lv (.long x :: st) σ τ z c n Q := by
  intro D cs z0 ar p l e R s m args below meth cd n0 a0 mc ms QF Cx ad H locs ls cells slots hA
  exact lv_l2i Cx.1.1.1 Cx.1.1.2.1 hd rfl (k D cs z0 ar p l e R s m args below meth cd n0 a0 mc ms QF Cx ad H locs ls cells slots hA)
theorem k_i2f {x : Int32} {st : List Value} (hd : decode M.2.1 pc = .ok (.i2f, 1)) (k : kn_Go X M (pc + 1) lv (.float (FP.i2f x) :: st) σ τ z c n Q) : kn_Go X M pc lv (.int x :: st) σ τ z c n Q := by
  intro D cs z0 ar p l e R s m args below meth cd n0 a0 mc ms QF Cx ad H locs ls cells slots hA
  exact lv_i2f Cx.1.1.1 Cx.1.1.2.1 hd (k D cs z0 ar p l e R s m args below meth cd n0 a0 mc ms QF Cx ad H locs ls cells slots hA)
theorem k_i2d {x : Int32} {st : List Value} (hd : decode M.2.1 pc = .ok (.i2d, 1)) (k : kn_Go X M (pc + 1) lv (.double (FP.i2d x) :: st) σ τ z c n Q) : kn_Go X M pc lv (.int x :: st) σ τ z c n Q := by
  intro D cs z0 ar p l e R s m args below meth cd n0 a0 mc ms QF Cx ad H locs ls cells slots hA
  exact lv_i2d Cx.1.1.1 Cx.1.1.2.1 hd (k D cs z0 ar p l e R s m args below meth cd n0 a0 mc ms QF Cx ad H locs ls cells slots hA)
theorem k_f2i {x : UInt32} {st : List Value} (hd : decode M.2.1 pc = .ok (.f2i, 1)) (k : kn_Go X M (pc + 1) lv (.int (FP.f2i x) :: st) σ τ z c n Q) : kn_Go X M pc lv (.float x :: st) σ τ z c n Q := by
  intro D cs z0 ar p l e R s m args below meth cd n0 a0 mc ms QF Cx ad H locs ls cells slots hA
  exact lv_f2i Cx.1.1.1 Cx.1.1.2.1 hd (k D cs z0 ar p l e R s m args below meth cd n0 a0 mc ms QF Cx ad H locs ls cells slots hA)
theorem k_fmul {x y : UInt32} {st : List Value} (hd : decode M.2.1 pc = .ok (.fmul, 1)) (hne : vf_n32 (FP.fmul x y)) (k : kn_Go X M (pc + 1) lv (.float (FP.fmul x y) :: st) σ τ z c n Q) : kn_Go X M pc lv (.float y :: .float x :: st) σ τ z c n Q := by
  intro D cs z0 ar p l e R s m args below meth cd n0 a0 mc ms QF Cx ad H locs ls cells slots hA
  exact lv_fmul Cx.1.1.1 Cx.1.1.2.1 hd hne (k D cs z0 ar p l e R s m args below meth cd n0 a0 mc ms QF Cx ad H locs ls cells slots hA)
theorem k_fdiv {x y : UInt32} {st : List Value} (hd : decode M.2.1 pc = .ok (.fdiv, 1)) (hne : vf_n32 (FP.fdiv x y)) (k : kn_Go X M (pc + 1) lv (.float (FP.fdiv x y) :: st) σ τ z c n Q) : kn_Go X M pc lv (.float y :: .float x :: st) σ τ z c n Q := by
  intro D cs z0 ar p l e R s m args below meth cd n0 a0 mc ms QF Cx ad H locs ls cells slots hA
  exact lv_fdiv Cx.1.1.1 Cx.1.1.2.1 hd hne (k D cs z0 ar p l e R s m args below meth cd n0 a0 mc ms QF Cx ad H locs ls cells slots hA)
theorem k_fsub {x y : UInt32} {st : List Value} (hd : decode M.2.1 pc = .ok (.fsub, 1)) (hne : vf_n32 (FP.fsub x y)) (k : kn_Go X M (pc + 1) lv (.float (FP.fsub x y) :: st) σ τ z c n Q) : kn_Go X M pc lv (.float y :: .float x :: st) σ τ z c n Q := by
  intro D cs z0 ar p l e R s m args below meth cd n0 a0 mc ms QF Cx ad H locs ls cells slots hA
  exact lv_fsub Cx.1.1.1 Cx.1.1.2.1 hd hne (k D cs z0 ar p l e R s m args below meth cd n0 a0 mc ms QF Cx ad H locs ls cells slots hA)
theorem k_ddiv {x y : UInt64} {st : List Value} (hd : decode M.2.1 pc = .ok (.ddiv, 1)) (hne : vf_n64 (FP.ddiv x y)) (k : kn_Go X M (pc + 1) lv (.double (FP.ddiv x y) :: st) σ τ z c n Q) : kn_Go X M pc lv (.double y :: .double x :: st) σ τ z c n Q := by
  intro D cs z0 ar p l e R s m args below meth cd n0 a0 mc ms QF Cx ad H locs ls cells slots hA
  exact lv_ddiv Cx.1.1.1 Cx.1.1.2.1 hd hne (k D cs z0 ar p l e R s m args below meth cd n0 a0 mc ms QF Cx ad H locs ls cells slots hA)
theorem k_dsub {x y : UInt64} {st : List Value} (hd : decode M.2.1 pc = .ok (.dsub, 1)) (hne : vf_n64 (FP.dsub x y)) (k : kn_Go X M (pc + 1) lv (.double (FP.dsub x y) :: st) σ τ z c n Q) : kn_Go X M pc lv (.double y :: .double x :: st) σ τ z c n Q := by
  intro D cs z0 ar p l e R s m args below meth cd n0 a0 mc ms QF Cx ad H locs ls cells slots hA
  exact lv_dsub Cx.1.1.1 Cx.1.1.2.1 hd hne (k D cs z0 ar p l e R s m args below meth cd n0 a0 mc ms QF Cx ad H locs ls cells slots hA)
theorem k_fcmp {x y : UInt32} {o : CmpOp} {st : List Value} (hd : decode M.2.1 pc = .ok (.fcmp o, 1)) (k : kn_Go X M (pc + 1) lv (.int (Op.cmpValue (FP.fcmp x y) o) :: st) σ τ z c n Q) : kn_Go X M pc lv (.float y :: .float x :: st) σ τ z c n Q := by
  intro D cs z0 ar p l e R s m args below meth cd n0 a0 mc ms QF Cx ad H locs ls cells slots hA
  exact lv_fcmp Cx.1.1.1 Cx.1.1.2.1 hd (k D cs z0 ar p l e R s m args below meth cd n0 a0 mc ms QF Cx ad H locs ls cells slots hA)
theorem k_dcmp {x y : UInt64} {o : CmpOp} {st : List Value} (hd : decode M.2.1 pc = .ok (.dcmp o, 1)) (k : kn_Go X M (pc + 1) lv (.int (Op.cmpValue (FP.dcmp x y) o) :: st) σ τ z c n Q) : kn_Go X M pc lv (.double y :: .double x :: st) σ τ z c n Q := by
  intro D cs z0 ar p l e R s m args below meth cd n0 a0 mc ms QF Cx ad H locs ls cells slots hA
  exact lv_dcmp Cx.1.1.1 Cx.1.1.2.1 hd (k D cs z0 ar p l e R s m args below meth cd n0 a0 mc ms QF Cx ad H locs ls cells slots hA)
theorem k_iconst {i : Int} {st : List Value} (v : Int32) (hd : decode M.2.1 pc = .ok (.iconst i, 1)) (hv : Int32.ofInt i = v) (k : kn_Go X M (pc + 1) lv (.int v :: st) σ τ z c n Q) : kn_Go X M pc lv st σ τ z c n Q := by
  intro D cs z0 ar p l e R s m args below meth cd n0 a0 mc ms QF Cx ad H locs ls cells slots hA
  exact lv_iconst Cx.1.1.1 Cx.1.1.2.1 hd hv (k D cs z0 ar p l e R s m args below meth cd n0 a0 mc ms QF Cx ad H locs ls cells slots hA)
theorem k_bipush {i : Int} {st : List Value} (v : Int32) (hd : decode M.2.1 pc = .ok (.bipush i, 2)) (hv : (Int8.ofInt i).toInt32 = v) (k : kn_Go X M (pc + 2) lv (.int v :: st) σ τ z c n Q) : kn_Go X M pc lv st σ τ z c n Q := by
  intro D cs z0 ar p l e R s m args below meth cd n0 a0 mc ms QF Cx ad H locs ls cells slots hA
  exact lv_bipush Cx.1.1.1 Cx.1.1.2.1 hd hv (k D cs z0 ar p l e R s m args below meth cd n0 a0 mc ms QF Cx ad H locs ls cells slots hA)
theorem k_sipush {i : Int} {st : List Value} (v : Int32) (hd : decode M.2.1 pc = .ok (.sipush i, 3)) (hv : (Int16.ofInt i).toInt32 = v) (k : kn_Go X M (pc + 3) lv (.int v :: st) σ τ z c n Q) : kn_Go X M pc lv st σ τ z c n Q := by
  intro D cs z0 ar p l e R s m args below meth cd n0 a0 mc ms QF Cx ad H locs ls cells slots hA
  exact lv_sipush Cx.1.1.1 Cx.1.1.2.1 hd hv (k D cs z0 ar p l e R s m args below meth cd n0 a0 mc ms QF Cx ad H locs ls cells slots hA)
theorem k_lconst {i : Fin 2} {st : List Value} (v : Int64) (hd : decode M.2.1 pc = .ok (.lconst i, 1)) (hv : Int64.ofNat (i : Nat) = v) (k : kn_Go X M (pc + 1) lv (.long v :: st) σ τ z c n Q) : kn_Go X M pc lv st σ τ z c n Q := by
  intro D cs z0 ar p l e R s m args below meth cd n0 a0 mc ms QF Cx ad H locs ls cells slots hA
  exact lv_lconst Cx.1.1.1 Cx.1.1.2.1 hd hv (k D cs z0 ar p l e R s m args below meth cd n0 a0 mc ms QF Cx ad H locs ls cells slots hA)
theorem k_fconst0 {st : List Value} (hd : decode M.2.1 pc = .ok (.fconst 0, 1)) (k : kn_Go X M (pc + 1) lv (.float 0 :: st) σ τ z c n Q) : kn_Go X M pc lv st σ τ z c n Q := by
  intro D cs z0 ar p l e R s m args below meth cd n0 a0 mc ms QF Cx ad H locs ls cells slots hA
  exact lv_fconst0 Cx.1.1.1 Cx.1.1.2.1 hd (k D cs z0 ar p l e R s m args below meth cd n0 a0 mc ms QF Cx ad H locs ls cells slots hA)
theorem k_fconst1 {st : List Value} (hd : decode M.2.1 pc = .ok (.fconst 1, 1)) (k : kn_Go X M (pc + 1) lv (.float 0x3f800000 :: st) σ τ z c n Q) : kn_Go X M pc lv st σ τ z c n Q := by
  intro D cs z0 ar p l e R s m args below meth cd n0 a0 mc ms QF Cx ad H locs ls cells slots hA
  exact lv_fconst1 Cx.1.1.1 Cx.1.1.2.1 hd (k D cs z0 ar p l e R s m args below meth cd n0 a0 mc ms QF Cx ad H locs ls cells slots hA)
theorem k_fconst2 {st : List Value} (hd : decode M.2.1 pc = .ok (.fconst 2, 1)) (k : kn_Go X M (pc + 1) lv (.float 0x40000000 :: st) σ τ z c n Q) : kn_Go X M pc lv st σ τ z c n Q := by
  intro D cs z0 ar p l e R s m args below meth cd n0 a0 mc ms QF Cx ad H locs ls cells slots hA
  exact lv_fconst2 Cx.1.1.1 Cx.1.1.2.1 hd (k D cs z0 ar p l e R s m args below meth cd n0 a0 mc ms QF Cx ad H locs ls cells slots hA)
theorem k_dconst0 {st : List Value} (hd : decode M.2.1 pc = .ok (.dconst 0, 1)) (k : kn_Go X M (pc + 1) lv (.double 0 :: st) σ τ z c n Q) : kn_Go X M pc lv st σ τ z c n Q := by
  intro D cs z0 ar p l e R s m args below meth cd n0 a0 mc ms QF Cx ad H locs ls cells slots hA
  exact lv_dconst0 Cx.1.1.1 Cx.1.1.2.1 hd (k D cs z0 ar p l e R s m args below meth cd n0 a0 mc ms QF Cx ad H locs ls cells slots hA)
theorem k_null {st : List Value} (hd : decode M.2.1 pc = .ok (.aconst_null, 1)) (k : kn_Go X M (pc + 1) lv (.null :: st) σ τ z c n Q) : kn_Go X M pc lv st σ τ z c n Q := by
  intro D cs z0 ar p l e R s m args below meth cd n0 a0 mc ms QF Cx ad H locs ls cells slots hA
  exact lv_null Cx.1.1.1 Cx.1.1.2.1 hd (k D cs z0 ar p l e R s m args below meth cd n0 a0 mc ms QF Cx ad H locs ls cells slots hA)
theorem k_ldc {i : Nat} {v : Int32} {st : List Value} (hd : decode M.2.1 pc = .ok (.ldc i, 2)) (hc : Cond.constant M.1.cls i v ∈ kn_ws) (k : kn_Go X M (pc + 2) lv (.int v :: st) σ τ z c n Q) : kn_Go X M pc lv st σ τ z c n Q := by
  intro D cs z0 ar p l e R s m args below meth cd n0 a0 mc ms QF Cx ad H locs ls cells slots hA
  exact lv_ldc Cx.1.1.1 Cx.1.1.2.1 Cx.1.1.2.2.2.1 (Cx.1.1.2.2.2.2 _ hc) hd (k D cs z0 ar p l e R s m args below meth cd n0 a0 mc ms QF Cx ad H locs ls cells slots hA)
theorem k_ldc2 {i : Nat} {v : Int64} {st : List Value} (hd : decode M.2.1 pc = .ok (.ldc2_w i, 3)) (hc : Cond.constantLong M.1.cls i v ∈ kn_ws) (k : kn_Go X M (pc + 3) lv (.long v :: st) σ τ z c n Q) : kn_Go X M pc lv st σ τ z c n Q := by
  intro D cs z0 ar p l e R s m args below meth cd n0 a0 mc ms QF Cx ad H locs ls cells slots hA
  exact lv_ldc2 Cx.1.1.1 Cx.1.1.2.1 Cx.1.1.2.2.2.1 (Cx.1.1.2.2.2.2 _ hc) hd (k D cs z0 ar p l e R s m args below meth cd n0 a0 mc ms QF Cx ad H locs ls cells slots hA)
theorem k_ldc2d {i : Nat} {v : UInt64} {st : List Value} (hd : decode M.2.1 pc = .ok (.ldc2_w i, 3)) (hc : Cond.constantDouble M.1.cls i v ∈ kn_ws) (k : kn_Go X M (pc + 3) lv (.double v :: st) σ τ z c n Q) : kn_Go X M pc lv st σ τ z c n Q := by
  intro D cs z0 ar p l e R s m args below meth cd n0 a0 mc ms QF Cx ad H locs ls cells slots hA
  exact lv_ldc2d Cx.1.1.1 Cx.1.1.2.1 Cx.1.1.2.2.2.1 (Cx.1.1.2.2.2.2 _ hc) hd (k D cs z0 ar p l e R s m args below meth cd n0 a0 mc ms QF Cx ad H locs ls cells slots hA)
theorem k_iload_n {k9 : Fin 4} {x : Int32} {st : List Value} (i : Nat) (hd : decode M.2.1 pc = .ok (.iload_n k9, 1)) (hi : (k9 : Nat) = i) (hg : kn_get lv i = some (.int x)) (k : kn_Go X M (pc + 1) lv (.int x :: st) σ τ z c n Q) : kn_Go X M pc lv st σ τ z c n Q := by
  intro D cs z0 ar p l e R s m args below meth cd n0 a0 mc ms QF Cx ad H locs ls cells slots hA
  exact lv_iload_n Cx.1.1.1 Cx.1.1.2.1 hd hi (kn_loc hA.2.2.2.2 hg) (k D cs z0 ar p l e R s m args below meth cd n0 a0 mc ms QF Cx ad H locs ls cells slots hA)
theorem k_iload {i : Nat} {x : Int32} {st : List Value} (hd : decode M.2.1 pc = .ok (.iload i, 2)) (hg : kn_get lv i = some (.int x)) (k : kn_Go X M (pc + 2) lv (.int x :: st) σ τ z c n Q) : kn_Go X M pc lv st σ τ z c n Q := by
  intro D cs z0 ar p l e R s m args below meth cd n0 a0 mc ms QF Cx ad H locs ls cells slots hA
  exact lv_iload Cx.1.1.1 Cx.1.1.2.1 hd (kn_loc hA.2.2.2.2 hg) (k D cs z0 ar p l e R s m args below meth cd n0 a0 mc ms QF Cx ad H locs ls cells slots hA)
theorem k_lload_n {k9 : Fin 4} {x : Int64} {st : List Value} (i : Nat) (hd : decode M.2.1 pc = .ok (.lload_n k9, 1)) (hi : (k9 : Nat) = i) (hg : kn_get lv i = some (.long x)) (k : kn_Go X M (pc + 1) lv (.long x :: st) σ τ z c n Q) : kn_Go X M pc lv st σ τ z c n Q := by
  intro D cs z0 ar p l e R s m args below meth cd n0 a0 mc ms QF Cx ad H locs ls cells slots hA
  exact lv_lload_n Cx.1.1.1 Cx.1.1.2.1 hd hi (kn_loc hA.2.2.2.2 hg) (k D cs z0 ar p l e R s m args below meth cd n0 a0 mc ms QF Cx ad H locs ls cells slots hA)
theorem k_lload {i : Nat} {x : Int64} {st : List Value} (hd : decode M.2.1 pc = .ok (.lload i, 2)) (hg : kn_get lv i = some (.long x)) (k : kn_Go X M (pc + 2) lv (.long x :: st) σ τ z c n Q) : kn_Go X M pc lv st σ τ z c n Q := by
  intro D cs z0 ar p l e R s m args below meth cd n0 a0 mc ms QF Cx ad H locs ls cells slots hA
  exact lv_lload Cx.1.1.1 Cx.1.1.2.1 hd (kn_loc hA.2.2.2.2 hg) (k D cs z0 ar p l e R s m args below meth cd n0 a0 mc ms QF Cx ad H locs ls cells slots hA)
theorem k_fload_n {k9 : Fin 4} {x : UInt32} {st : List Value} (i : Nat) (hd : decode M.2.1 pc = .ok (.fload_n k9, 1)) (hi : (k9 : Nat) = i) (hg : kn_get lv i = some (.float x)) (k : kn_Go X M (pc + 1) lv (.float x :: st) σ τ z c n Q) : kn_Go X M pc lv st σ τ z c n Q := by
  intro D cs z0 ar p l e R s m args below meth cd n0 a0 mc ms QF Cx ad H locs ls cells slots hA
  exact lv_fload_n Cx.1.1.1 Cx.1.1.2.1 hd hi (kn_loc hA.2.2.2.2 hg) (k D cs z0 ar p l e R s m args below meth cd n0 a0 mc ms QF Cx ad H locs ls cells slots hA)
theorem k_dload {i : Nat} {x : UInt64} {st : List Value} (hd : decode M.2.1 pc = .ok (.dload i, 2)) (hg : kn_get lv i = some (.double x)) (k : kn_Go X M (pc + 2) lv (.double x :: st) σ τ z c n Q) : kn_Go X M pc lv st σ τ z c n Q := by
  intro D cs z0 ar p l e R s m args below meth cd n0 a0 mc ms QF Cx ad H locs ls cells slots hA
  exact lv_dload Cx.1.1.1 Cx.1.1.2.1 hd (kn_loc hA.2.2.2.2 hg) (k D cs z0 ar p l e R s m args below meth cd n0 a0 mc ms QF Cx ad H locs ls cells slots hA)
theorem k_aload_n {k9 : Fin 4} {r : Nat} {st : List Value} (i : Nat) (hd : decode M.2.1 pc = .ok (.aload_n k9, 1)) (hi : (k9 : Nat) = i) (hg : kn_get lv i = some (.ref r)) (k : kn_Go X M (pc + 1) lv (.ref r :: st) σ τ z c n Q) : kn_Go X M pc lv st σ τ z c n Q := by
  intro D cs z0 ar p l e R s m args below meth cd n0 a0 mc ms QF Cx ad H locs ls cells slots hA
  exact lv_aload_n Cx.1.1.1 Cx.1.1.2.1 hd hi (kn_loc hA.2.2.2.2 hg) (k D cs z0 ar p l e R s m args below meth cd n0 a0 mc ms QF Cx ad H locs ls cells slots hA)
theorem k_aload {i : Nat} {r : Nat} {st : List Value} (hd : decode M.2.1 pc = .ok (.aload i, 2)) (hg : kn_get lv i = some (.ref r)) (k : kn_Go X M (pc + 2) lv (.ref r :: st) σ τ z c n Q) : kn_Go X M pc lv st σ τ z c n Q := by
  intro D cs z0 ar p l e R s m args below meth cd n0 a0 mc ms QF Cx ad H locs ls cells slots hA
  exact lv_aload Cx.1.1.1 Cx.1.1.2.1 hd (kn_loc hA.2.2.2.2 hg) (k D cs z0 ar p l e R s m args below meth cd n0 a0 mc ms QF Cx ad H locs ls cells slots hA)
theorem k_aload_nR {k9 : Fin 4} {r : Nat} {st : List Value} (i : Nat) (hd : decode M.2.1 pc = .ok (.aload_n k9, 1)) (hi : (k9 : Nat) = i) (hg : kn_get lv i = some (.retAddr r)) (k : kn_Go X M (pc + 1) lv (.retAddr r :: st) σ τ z c n Q) : kn_Go X M pc lv st σ τ z c n Q := by
  intro D cs z0 ar p l e R s m args below meth cd n0 a0 mc ms QF Cx ad H locs ls cells slots hA
  exact lv_aload_n Cx.1.1.1 Cx.1.1.2.1 hd hi (kn_loc hA.2.2.2.2 hg) (k D cs z0 ar p l e R s m args below meth cd n0 a0 mc ms QF Cx ad H locs ls cells slots hA)
theorem k_aloadR {i : Nat} {r : Nat} {st : List Value} (hd : decode M.2.1 pc = .ok (.aload i, 2)) (hg : kn_get lv i = some (.retAddr r)) (k : kn_Go X M (pc + 2) lv (.retAddr r :: st) σ τ z c n Q) : kn_Go X M pc lv st σ τ z c n Q := by
  intro D cs z0 ar p l e R s m args below meth cd n0 a0 mc ms QF Cx ad H locs ls cells slots hA
  exact lv_aload Cx.1.1.1 Cx.1.1.2.1 hd (kn_loc hA.2.2.2.2 hg) (k D cs z0 ar p l e R s m args below meth cd n0 a0 mc ms QF Cx ad H locs ls cells slots hA)
theorem k_aload_nN {k9 : Fin 4} {st : List Value} (i : Nat) (hd : decode M.2.1 pc = .ok (.aload_n k9, 1)) (hi : (k9 : Nat) = i) (hg : kn_get lv i = some .null) (k : kn_Go X M (pc + 1) lv (.null :: st) σ τ z c n Q) : kn_Go X M pc lv st σ τ z c n Q := by
  intro D cs z0 ar p l e R s m args below meth cd n0 a0 mc ms QF Cx ad H locs ls cells slots hA
  exact lv_aload_nN Cx.1.1.1 Cx.1.1.2.1 hd hi (kn_loc hA.2.2.2.2 hg) (k D cs z0 ar p l e R s m args below meth cd n0 a0 mc ms QF Cx ad H locs ls cells slots hA)
theorem k_istore_n {k9 : Fin 4} {x : Int32} {st : List Value} (i : Nat) {lv' : kn_L} (hd : decode M.2.1 pc = .ok (.istore_n k9, 1)) (hi : (k9 : Nat) = i) (hn : i < M.2.2.1) (hl : kn_put lv i (.int x) = lv') (k : kn_Go X M (pc + 1) lv' st σ τ z c n Q) : kn_Go X M pc lv (.int x :: st) σ τ z c n Q := by
  intro D cs z0 ar p l e R s m args below meth cd n0 a0 mc ms QF Cx ad H locs ls cells slots hA
  subst hl
  exact lv_istore_n Cx.1.1.1 Cx.1.1.2.1 hd hi hA.2.2.2.2 hn (kn_put_lc ad ar lv i (.int x)) (fun ls' hl' => k D cs z0 ar p l e R s m args below meth cd n0 a0 mc ms QF Cx ad H locs ls' cells slots ⟨hA.1, hA.2.1, hA.2.2.1, hA.2.2.2.1, hl'⟩)
theorem k_istore {i : Nat} {x : Int32} {st : List Value} {lv' : kn_L} (hd : decode M.2.1 pc = .ok (.istore i, 2)) (hn : i < M.2.2.1) (hl : kn_put lv i (.int x) = lv') (k : kn_Go X M (pc + 2) lv' st σ τ z c n Q) : kn_Go X M pc lv (.int x :: st) σ τ z c n Q := by
  intro D cs z0 ar p l e R s m args below meth cd n0 a0 mc ms QF Cx ad H locs ls cells slots hA
  subst hl
  exact lv_istore Cx.1.1.1 Cx.1.1.2.1 hd hA.2.2.2.2 hn (kn_put_lc ad ar lv i (.int x)) (fun ls' hl' => k D cs z0 ar p l e R s m args below meth cd n0 a0 mc ms QF Cx ad H locs ls' cells slots ⟨hA.1, hA.2.1, hA.2.2.1, hA.2.2.2.1, hl'⟩)
theorem k_lstore_n {k9 : Fin 4} {x : Int64} {st : List Value} (i : Nat) {lv' : kn_L} (hd : decode M.2.1 pc = .ok (.lstore_n k9, 1)) (hi : (k9 : Nat) = i) (hn : i + 1 < M.2.2.1) (hl : kn_put2 lv i (.long x) = lv') (k : kn_Go X M (pc + 1) lv' st σ τ z c n Q) : kn_Go X M pc lv (.long x :: st) σ τ z c n Q := by
  intro D cs z0 ar p l e R s m args below meth cd n0 a0 mc ms QF Cx ad H locs ls cells slots hA
  subst hl
  exact lv_lstore_n Cx.1.1.1 Cx.1.1.2.1 hd hi hA.2.2.2.2 hn (kn_put2_lc ad ar lv i (.long x)) (fun ls' hl' => k D cs z0 ar p l e R s m args below meth cd n0 a0 mc ms QF Cx ad H locs ls' cells slots ⟨hA.1, hA.2.1, hA.2.2.1, hA.2.2.2.1, hl'⟩)
theorem k_fstore_n {k9 : Fin 4} {x : UInt32} {st : List Value} (i : Nat) {lv' : kn_L} (hd : decode M.2.1 pc = .ok (.fstore_n k9, 1)) (hi : (k9 : Nat) = i) (hn : i < M.2.2.1) (hl : kn_put lv i (.float x) = lv') (k : kn_Go X M (pc + 1) lv' st σ τ z c n Q) : kn_Go X M pc lv (.float x :: st) σ τ z c n Q := by
  intro D cs z0 ar p l e R s m args below meth cd n0 a0 mc ms QF Cx ad H locs ls cells slots hA
  subst hl
  exact lv_fstore_n Cx.1.1.1 Cx.1.1.2.1 hd hi hA.2.2.2.2 hn (kn_put_lc ad ar lv i (.float x)) (fun ls' hl' => k D cs z0 ar p l e R s m args below meth cd n0 a0 mc ms QF Cx ad H locs ls' cells slots ⟨hA.1, hA.2.1, hA.2.2.1, hA.2.2.2.1, hl'⟩)
theorem k_dstore {i : Nat} {x : UInt64} {st : List Value} {lv' : kn_L} (hd : decode M.2.1 pc = .ok (.dstore i, 2)) (hn : i + 1 < M.2.2.1) (hl : kn_put2 lv i (.double x) = lv') (k : kn_Go X M (pc + 2) lv' st σ τ z c n Q) : kn_Go X M pc lv (.double x :: st) σ τ z c n Q := by
  intro D cs z0 ar p l e R s m args below meth cd n0 a0 mc ms QF Cx ad H locs ls cells slots hA
  subst hl
  exact lv_dstore Cx.1.1.1 Cx.1.1.2.1 hd hA.2.2.2.2 hn (kn_put2_lc ad ar lv i (.double x)) (fun ls' hl' => k D cs z0 ar p l e R s m args below meth cd n0 a0 mc ms QF Cx ad H locs ls' cells slots ⟨hA.1, hA.2.1, hA.2.2.1, hA.2.2.2.1, hl'⟩)
theorem k_astore_n {k9 : Fin 4} {r : Nat} {st : List Value} (i : Nat) {lv' : kn_L} (hd : decode M.2.1 pc = .ok (.astore_n k9, 1)) (hi : (k9 : Nat) = i) (hn : i < M.2.2.1) (hl : kn_put lv i (.ref r) = lv') (k : kn_Go X M (pc + 1) lv' st σ τ z c n Q) : kn_Go X M pc lv (.ref r :: st) σ τ z c n Q := by
  intro D cs z0 ar p l e R s m args below meth cd n0 a0 mc ms QF Cx ad H locs ls cells slots hA
  subst hl
  exact lv_astore_n Cx.1.1.1 Cx.1.1.2.1 hd hi hA.2.2.2.2 hn (kn_put_lc ad ar lv i (.ref r)) (fun ls' hl' => k D cs z0 ar p l e R s m args below meth cd n0 a0 mc ms QF Cx ad H locs ls' cells slots ⟨hA.1, hA.2.1, hA.2.2.1, hA.2.2.2.1, hl'⟩)
theorem k_astore_nN {k9 : Fin 4} {st : List Value} (i : Nat) {lv' : kn_L} (hd : decode M.2.1 pc = .ok (.astore_n k9, 1)) (hi : (k9 : Nat) = i) (hn : i < M.2.2.1) (hl : kn_put lv i (.null) = lv') (k : kn_Go X M (pc + 1) lv' st σ τ z c n Q) : kn_Go X M pc lv (.null :: st) σ τ z c n Q := by
  intro D cs z0 ar p l e R s m args below meth cd n0 a0 mc ms QF Cx ad H locs ls cells slots hA
  subst hl
  exact lv_astore_nN Cx.1.1.1 Cx.1.1.2.1 hd hi hA.2.2.2.2 hn (kn_put_lc ad ar lv i .null) (fun ls' hl' => k D cs z0 ar p l e R s m args below meth cd n0 a0 mc ms QF Cx ad H locs ls' cells slots ⟨hA.1, hA.2.1, hA.2.2.1, hA.2.2.2.1, hl'⟩)
theorem k_astore {i : Nat} {r : Nat} {st : List Value} {lv' : kn_L} (hd : decode M.2.1 pc = .ok (.astore i, 2)) (hn : i < M.2.2.1) (hl : kn_put lv i (.ref r) = lv') (k : kn_Go X M (pc + 2) lv' st σ τ z c n Q) : kn_Go X M pc lv (.ref r :: st) σ τ z c n Q := by
  intro D cs z0 ar p l e R s m args below meth cd n0 a0 mc ms QF Cx ad H locs ls cells slots hA
  subst hl
  exact lv_astore Cx.1.1.1 Cx.1.1.2.1 hd hA.2.2.2.2 hn (kn_put_lc ad ar lv i (.ref r)) (fun ls' hl' => k D cs z0 ar p l e R s m args below meth cd n0 a0 mc ms QF Cx ad H locs ls' cells slots ⟨hA.1, hA.2.1, hA.2.2.1, hA.2.2.2.1, hl'⟩)
theorem k_iinc {i : Nat} {d : Int} {x : Int32} {st : List Value} (v : Int32) {lv' : kn_L} (hd : decode M.2.1 pc = .ok (.iinc i d, 3)) (hg : kn_get lv i = some (.int x)) (hv : x + Int32.ofInt d = v) (hn : i < M.2.2.1) (hl : kn_put lv i (.int v) = lv') (k : kn_Go X M (pc + 3) lv' st σ τ z c n Q) : kn_Go X M pc lv st σ τ z c n Q := by
  intro D cs z0 ar p l e R s m args below meth cd n0 a0 mc ms QF Cx ad H locs ls cells slots hA
  subst hl
  obtain ⟨j, hj⟩ := List.getElem?_of_mem (show (i, Value.int x) ∈ kn_lc ad ar lv from List.mem_map.mpr ⟨(i, .int x), kn_get_mem hg, rfl⟩)
  exact lv_iinc Cx.1.1.1 Cx.1.1.2.1 hd hA.2.2.2.2 hj hv hn (kn_put_lc ad ar lv i (.int v)) (fun ls' hl' => k D cs z0 ar p l e R s m args below meth cd n0 a0 mc ms QF Cx ad H locs ls' cells slots ⟨hA.1, hA.2.1, hA.2.2.1, hA.2.2.2.1, hl'⟩)
theorem k_ifeq {x : Int32} {off : Int} {st : List Value} (tgt : Nat) (hd : decode M.2.1 pc = .ok (.ifCond .eq off, 3)) (ht : (pc : Int) + off = (tgt : Int)) (kt : (x = 0) → kn_Go X M tgt lv st σ τ z c n Q) (kf : ¬ (x = 0) → kn_Go X M (pc + 3) lv st σ τ z c n Q) : kn_Go X M pc lv (.int x :: st) σ τ z c n Q := by
  intro D cs z0 ar p l e R s m args below meth cd n0 a0 mc ms QF Cx ad H locs ls cells slots hA
  exact lv_if_eq Cx.1.1.1 Cx.1.1.2.1 hd ht (fun h => kt h D cs z0 ar p l e R s m args below meth cd n0 a0 mc ms QF Cx ad H locs ls cells slots hA) (fun h => kf h D cs z0 ar p l e R s m args below meth cd n0 a0 mc ms QF Cx ad H locs ls cells slots hA)
theorem k_icmpeq {x y : Int32} {off : Int} {st : List Value} (tgt : Nat) (hd : decode M.2.1 pc = .ok (.if_icmp .eq off, 3)) (ht : (pc : Int) + off = (tgt : Int)) (kt : (x = y) → kn_Go X M tgt lv st σ τ z c n Q) (kf : ¬ (x = y) → kn_Go X M (pc + 3) lv st σ τ z c n Q) : kn_Go X M pc lv (.int y :: .int x :: st) σ τ z c n Q := by
  intro D cs z0 ar p l e R s m args below meth cd n0 a0 mc ms QF Cx ad H locs ls cells slots hA
  exact lv_icmp_eq Cx.1.1.1 Cx.1.1.2.1 hd ht (fun h => kt h D cs z0 ar p l e R s m args below meth cd n0 a0 mc ms QF Cx ad H locs ls cells slots hA) (fun h => kf h D cs z0 ar p l e R s m args below meth cd n0 a0 mc ms QF Cx ad H locs ls cells slots hA)
theorem k_ifne {x : Int32} {off : Int} {st : List Value} (tgt : Nat) (hd : decode M.2.1 pc = .ok (.ifCond .ne off, 3)) (ht : (pc : Int) + off = (tgt : Int)) (kt : (¬ x = 0) → kn_Go X M tgt lv st σ τ z c n Q) (kf : (x = 0) → kn_Go X M (pc + 3) lv st σ τ z c n Q) : kn_Go X M pc lv (.int x :: st) σ τ z c n Q := by
  intro D cs z0 ar p l e R s m args below meth cd n0 a0 mc ms QF Cx ad H locs ls cells slots hA
  exact lv_if_ne Cx.1.1.1 Cx.1.1.2.1 hd ht (fun h => kt h D cs z0 ar p l e R s m args below meth cd n0 a0 mc ms QF Cx ad H locs ls cells slots hA) (fun h => kf h D cs z0 ar p l e R s m args below meth cd n0 a0 mc ms QF Cx ad H locs ls cells slots hA)
theorem k_icmpne {x y : Int32} {off : Int} {st : List Value} (tgt : Nat) (hd : decode M.2.1 pc = .ok (.if_icmp .ne off, 3)) (ht : (pc : Int) + off = (tgt : Int)) (kt : (¬ x = y) → kn_Go X M tgt lv st σ τ z c n Q) (kf : (x = y) → kn_Go X M (pc + 3) lv st σ τ z c n Q) : kn_Go X M pc lv (.int y :: .int x :: st) σ τ z c n Q := by
  intro D cs z0 ar p l e R s m args below meth cd n0 a0 mc ms QF Cx ad H locs ls cells slots hA
  exact lv_icmp_ne Cx.1.1.1 Cx.1.1.2.1 hd ht (fun h => kt h D cs z0 ar p l e R s m args below meth cd n0 a0 mc ms QF Cx ad H locs ls cells slots hA) (fun h => kf h D cs z0 ar p l e R s m args below meth cd n0 a0 mc ms QF Cx ad H locs ls cells slots hA)
theorem k_iflt {x : Int32} {off : Int} {st : List Value} (tgt : Nat) (hd : decode M.2.1 pc = .ok (.ifCond .lt off, 3)) (ht : (pc : Int) + off = (tgt : Int)) (kt : (x < 0) → kn_Go X M tgt lv st σ τ z c n Q) (kf : ¬ (x < 0) → kn_Go X M (pc + 3) lv st σ τ z c n Q) : kn_Go X M pc lv (.int x :: st) σ τ z c n Q := by
  intro D cs z0 ar p l e R s m args below meth cd n0 a0 mc ms QF Cx ad H locs ls cells slots hA
  exact lv_if_lt Cx.1.1.1 Cx.1.1.2.1 hd ht (fun h => kt h D cs z0 ar p l e R s m args below meth cd n0 a0 mc ms QF Cx ad H locs ls cells slots hA) (fun h => kf h D cs z0 ar p l e R s m args below meth cd n0 a0 mc ms QF Cx ad H locs ls cells slots hA)
theorem k_icmplt {x y : Int32} {off : Int} {st : List Value} (tgt : Nat) (hd : decode M.2.1 pc = .ok (.if_icmp .lt off, 3)) (ht : (pc : Int) + off = (tgt : Int)) (kt : (x < y) → kn_Go X M tgt lv st σ τ z c n Q) (kf : ¬ (x < y) → kn_Go X M (pc + 3) lv st σ τ z c n Q) : kn_Go X M pc lv (.int y :: .int x :: st) σ τ z c n Q := by
  intro D cs z0 ar p l e R s m args below meth cd n0 a0 mc ms QF Cx ad H locs ls cells slots hA
  exact lv_icmp_lt Cx.1.1.1 Cx.1.1.2.1 hd ht (fun h => kt h D cs z0 ar p l e R s m args below meth cd n0 a0 mc ms QF Cx ad H locs ls cells slots hA) (fun h => kf h D cs z0 ar p l e R s m args below meth cd n0 a0 mc ms QF Cx ad H locs ls cells slots hA)
theorem k_ifge {x : Int32} {off : Int} {st : List Value} (tgt : Nat) (hd : decode M.2.1 pc = .ok (.ifCond .ge off, 3)) (ht : (pc : Int) + off = (tgt : Int)) (kt : (0 ≤ x) → kn_Go X M tgt lv st σ τ z c n Q) (kf : ¬ (0 ≤ x) → kn_Go X M (pc + 3) lv st σ τ z c n Q) : kn_Go X M pc lv (.int x :: st) σ τ z c n Q := by
  intro D cs z0 ar p l e R s m args below meth cd n0 a0 mc ms QF Cx ad H locs ls cells slots hA
  exact lv_if_ge Cx.1.1.1 Cx.1.1.2.1 hd ht (fun h => kt h D cs z0 ar p l e R s m args below meth cd n0 a0 mc ms QF Cx ad H locs ls cells slots hA) (fun h => kf h D cs z0 ar p l e R s m args below meth cd n0 a0 mc ms QF Cx ad H locs ls cells slots hA)
theorem k_icmpge {x y : Int32} {off : Int} {st : List Value} (tgt : Nat) (hd : decode M.2.1 pc = .ok (.if_icmp .ge off, 3)) (ht : (pc : Int) + off = (tgt : Int)) (kt : (y ≤ x) → kn_Go X M tgt lv st σ τ z c n Q) (kf : ¬ (y ≤ x) → kn_Go X M (pc + 3) lv st σ τ z c n Q) : kn_Go X M pc lv (.int y :: .int x :: st) σ τ z c n Q := by
  intro D cs z0 ar p l e R s m args below meth cd n0 a0 mc ms QF Cx ad H locs ls cells slots hA
  exact lv_icmp_ge Cx.1.1.1 Cx.1.1.2.1 hd ht (fun h => kt h D cs z0 ar p l e R s m args below meth cd n0 a0 mc ms QF Cx ad H locs ls cells slots hA) (fun h => kf h D cs z0 ar p l e R s m args below meth cd n0 a0 mc ms QF Cx ad H locs ls cells slots hA)
theorem k_ifgt {x : Int32} {off : Int} {st : List Value} (tgt : Nat) (hd : decode M.2.1 pc = .ok (.ifCond .gt off, 3)) (ht : (pc : Int) + off = (tgt : Int)) (kt : (0 < x) → kn_Go X M tgt lv st σ τ z c n Q) (kf : ¬ (0 < x) → kn_Go X M (pc + 3) lv st σ τ z c n Q) : kn_Go X M pc lv (.int x :: st) σ τ z c n Q := by
  intro D cs z0 ar p l e R s m args below meth cd n0 a0 mc ms QF Cx ad H locs ls cells slots hA
  exact lv_if_gt Cx.1.1.1 Cx.1.1.2.1 hd ht (fun h => kt h D cs z0 ar p l e R s m args below meth cd n0 a0 mc ms QF Cx ad H locs ls cells slots hA) (fun h => kf h D cs z0 ar p l e R s m args below meth cd n0 a0 mc ms QF Cx ad H locs ls cells slots hA)
theorem k_icmpgt {x y : Int32} {off : Int} {st : List Value} (tgt : Nat) (hd : decode M.2.1 pc = .ok (.if_icmp .gt off, 3)) (ht : (pc : Int) + off = (tgt : Int)) (kt : (y < x) → kn_Go X M tgt lv st σ τ z c n Q) (kf : ¬ (y < x) → kn_Go X M (pc + 3) lv st σ τ z c n Q) : kn_Go X M pc lv (.int y :: .int x :: st) σ τ z c n Q := by
  intro D cs z0 ar p l e R s m args below meth cd n0 a0 mc ms QF Cx ad H locs ls cells slots hA
  exact lv_icmp_gt Cx.1.1.1 Cx.1.1.2.1 hd ht (fun h => kt h D cs z0 ar p l e R s m args below meth cd n0 a0 mc ms QF Cx ad H locs ls cells slots hA) (fun h => kf h D cs z0 ar p l e R s m args below meth cd n0 a0 mc ms QF Cx ad H locs ls cells slots hA)
theorem k_ifle {x : Int32} {off : Int} {st : List Value} (tgt : Nat) (hd : decode M.2.1 pc = .ok (.ifCond .le off, 3)) (ht : (pc : Int) + off = (tgt : Int)) (kt : (x ≤ 0) → kn_Go X M tgt lv st σ τ z c n Q) (kf : ¬ (x ≤ 0) → kn_Go X M (pc + 3) lv st σ τ z c n Q) : kn_Go X M pc lv (.int x :: st) σ τ z c n Q := by
  intro D cs z0 ar p l e R s m args below meth cd n0 a0 mc ms QF Cx ad H locs ls cells slots hA
  exact lv_if_le Cx.1.1.1 Cx.1.1.2.1 hd ht (fun h => kt h D cs z0 ar p l e R s m args below meth cd n0 a0 mc ms QF Cx ad H locs ls cells slots hA) (fun h => kf h D cs z0 ar p l e R s m args below meth cd n0 a0 mc ms QF Cx ad H locs ls cells slots hA)
theorem k_icmple {x y : Int32} {off : Int} {st : List Value} (tgt : Nat) (hd : decode M.2.1 pc = .ok (.if_icmp .le off, 3)) (ht : (pc : Int) + off = (tgt : Int)) (kt : (x ≤ y) → kn_Go X M tgt lv st σ τ z c n Q) (kf : ¬ (x ≤ y) → kn_Go X M (pc + 3) lv st σ τ z c n Q) : kn_Go X M pc lv (.int y :: .int x :: st) σ τ z c n Q := by
  intro D cs z0 ar p l e R s m args below meth cd n0 a0 mc ms QF Cx ad H locs ls cells slots hA
  exact lv_icmp_le Cx.1.1.1 Cx.1.1.2.1 hd ht (fun h => kt h D cs z0 ar p l e R s m args below meth cd n0 a0 mc ms QF Cx ad H locs ls cells slots hA) (fun h => kf h D cs z0 ar p l e R s m args below meth cd n0 a0 mc ms QF Cx ad H locs ls cells slots hA)
theorem k_goto {off : Int} {st : List Value} (tgt : Nat) (hd : decode M.2.1 pc = .ok (.goto off, 3)) (ht : (pc : Int) + off = (tgt : Int)) (k : kn_Go X M tgt lv st σ τ z c n Q) : kn_Go X M pc lv st σ τ z c n Q := by
  intro D cs z0 ar p l e R s m args below meth cd n0 a0 mc ms QF Cx ad H locs ls cells slots hA
  exact lv_goto Cx.1.1.1 Cx.1.1.2.1 hd ht (k D cs z0 ar p l e R s m args below meth cd n0 a0 mc ms QF Cx ad H locs ls cells slots hA)
theorem k_ifnull {off : Int} {r : Nat} {st : List Value} (hd : decode M.2.1 pc = .ok (.ifnull off, 3)) (k : kn_Go X M (pc + 3) lv st σ τ z c n Q) : kn_Go X M pc lv (.ref r :: st) σ τ z c n Q := by
  intro D cs z0 ar p l e R s m args below meth cd n0 a0 mc ms QF Cx ad H locs ls cells slots hA
  exact lv_ifnull Cx.1.1.1 Cx.1.1.2.1 hd (k D cs z0 ar p l e R s m args below meth cd n0 a0 mc ms QF Cx ad H locs ls cells slots hA)
theorem k_tsIn {x : Int32} {dflt lo hi : Int} {offs : Array Int} {len : Nat} {off : Int} {st : List Value} (tgt : Nat) (hd : decode M.2.1 pc = .ok (.tableswitch dflt lo hi offs, len)) (h1 : ¬ x.toInt < lo) (h2 : ¬ hi < x.toInt) (ho : offs[(x.toInt - lo).toNat]? = some off) (ht : (pc : Int) + off = (tgt : Int)) (k : kn_Go X M tgt lv st σ τ z c n Q) : kn_Go X M pc lv (.int x :: st) σ τ z c n Q := by
  intro D cs z0 ar p l e R s m args below meth cd n0 a0 mc ms QF Cx ad H locs ls cells slots hA
  exact lv_tableIn Cx.1.1.1 Cx.1.1.2.1 hd h1 h2 ho ht (k D cs z0 ar p l e R s m args below meth cd n0 a0 mc ms QF Cx ad H locs ls cells slots hA)
theorem k_tsOut {x : Int32} {dflt lo hi : Int} {offs : Array Int} {len : Nat} {st : List Value} (tgt : Nat) (hd : decode M.2.1 pc = .ok (.tableswitch dflt lo hi offs, len)) (h1 : x.toInt < lo ∨ hi < x.toInt) (ht : (pc : Int) + dflt = (tgt : Int)) (k : kn_Go X M tgt lv st σ τ z c n Q) : kn_Go X M pc lv (.int x :: st) σ τ z c n Q := by
  intro D cs z0 ar p l e R s m args below meth cd n0 a0 mc ms QF Cx ad H locs ls cells slots hA
  exact lv_tableOut Cx.1.1.1 Cx.1.1.2.1 hd h1 ht (k D cs z0 ar p l e R s m args below meth cd n0 a0 mc ms QF Cx ad H locs ls cells slots hA)
theorem k_lsw {x : Int32} {dflt : Int} {ps : Array (Int × Int)} {len : Nat} {off : Int} {st : List Value} (tgt : Nat) (hd : decode M.2.1 pc = .ok (.lookupswitch dflt ps, len)) (hp : (ps.toList.zip (ps.toList.drop 1)).all (fun (a, next) => a.1 < next.1) = true) (ho : Op.lookupswitch.offset ps.toList dflt x.toInt = off) (ht : (pc : Int) + off = (tgt : Int)) (k : kn_Go X M tgt lv st σ τ z c n Q) : kn_Go X M pc lv (.int x :: st) σ τ z c n Q := by
  intro D cs z0 ar p l e R s m args below meth cd n0 a0 mc ms QF Cx ad H locs ls cells slots hA
  exact lv_lookup Cx.1.1.1 Cx.1.1.2.1 hd hp ho ht (k D cs z0 ar p l e R s m args below meth cd n0 a0 mc ms QF Cx ad H locs ls cells slots hA)
theorem k_dup {v : Value} {st : List Value} (hd : decode M.2.1 pc = .ok (.dup, 1)) (hv : v.category = 1) (k : kn_Go X M (pc + 1) lv (v :: v :: st) σ τ z c n Q) : kn_Go X M pc lv (v :: st) σ τ z c n Q := by
  intro D cs z0 ar p l e R s m args below meth cd n0 a0 mc ms QF Cx ad H locs ls cells slots hA
  exact lv_dup Cx.1.1.1 Cx.1.1.2.1 hd (by rw [kn_cv_cat]; exact hv) (k D cs z0 ar p l e R s m args below meth cd n0 a0 mc ms QF Cx ad H locs ls cells slots hA)
theorem k_pop {v : Value} {st : List Value} (hd : decode M.2.1 pc = .ok (.pop, 1)) (hv : v.category = 1) (k : kn_Go X M (pc + 1) lv st σ τ z c n Q) : kn_Go X M pc lv (v :: st) σ τ z c n Q := by
  intro D cs z0 ar p l e R s m args below meth cd n0 a0 mc ms QF Cx ad H locs ls cells slots hA
  exact lv_pop Cx.1.1.1 Cx.1.1.2.1 hd (by rw [kn_cv_cat]; exact hv) (k D cs z0 ar p l e R s m args below meth cd n0 a0 mc ms QF Cx ad H locs ls cells slots hA)
theorem k_dup2 {v w : Value} {st : List Value} (hd : decode M.2.1 pc = .ok (.dup2, 1)) (hv : v.category = 1) (hw : w.category = 1) (k : kn_Go X M (pc + 1) lv (v :: w :: v :: w :: st) σ τ z c n Q) : kn_Go X M pc lv (v :: w :: st) σ τ z c n Q := by
  intro D cs z0 ar p l e R s m args below meth cd n0 a0 mc ms QF Cx ad H locs ls cells slots hA
  exact lv_dup2_11 Cx.1.1.1 Cx.1.1.2.1 hd (by rw [kn_cv_cat]; exact hv) (by rw [kn_cv_cat]; exact hw) (k D cs z0 ar p l e R s m args below meth cd n0 a0 mc ms QF Cx ad H locs ls cells slots hA)
end KNR

