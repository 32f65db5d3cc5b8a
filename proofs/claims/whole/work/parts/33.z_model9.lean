-- Float's bits
theorem k_f2raw {X : kn_X} {M : kn_M} {pc : Nat} {lv : kn_L} {σ : kn_S} {τ : kn_T} {z : kn_Z} {c n : Nat} {Q : kn_Q} {b : UInt32} {rest : List Value} {idx : Nat} (hd : decode M.2.1 pc = .ok (.invokestatic idx, 3)) (hL : Cond.methodLink M.1.cls idx ⟨"java/lang/Float", "floatToRawIntBits", "(F)I"⟩ ∈ kn_ws) (hn : Cond.native ⟨"java/lang/Float", "floatToRawIntBits", "(F)I"⟩ ∈ kn_ws) (hs : Cond.static ⟨"java/lang/Float", "floatToRawIntBits", "(F)I"⟩ ∈ kn_ws) (hi : Cond.initialized "java/lang/Float" ∈ kn_ws) (hf : 1 ≤ M.2.2.2.2.2.1 ∧ (rest.map fun v => v.category).sum + 15 ≤ M.2.2.2.2.2.2)
    (k : kn_Go X M (pc + 3) lv (.int b.toInt32 :: rest) σ τ z c n Q) : kn_Go X M pc lv (.float b :: rest) σ τ z c n Q := by
  intro D cs z0 ar p l e R s m args below meth cd n0 a0 mc ms QF Cx ad H locs ls cells slots hA
  have hts := Cx.1.1.2.2.2.2
  refine vn_f2i Cx.1.1.1 Cx.1.1.2.1 (by rw [Cx.1.1.2.2.1]; exact hA.2.2.2.2.1.symm) Cx.1.1.2.2.2.1 (hts _ hL) (hts _ hn) (hts _ hs) (hts _ hi) (Nat.le_trans hf.1 Cx.1.2.2.1.1) ?_ hd ?_
  · have h9 := Nat.le_trans hf.2 Cx.1.2.2.1.2
    show ((rest.map (kn_cv ad ar)).map fun v => v.category).sum + 15 ≤ _
    rw [kn_cats]
    exact h9
  · exact k D cs z0 ar p l e R s m args below meth cd n0 a0 mc ms QF Cx ad H locs ls cells slots hA
def kg_nan (f : UInt32) : Int32 := if Op.cmpValue (FP.fcmp f f) .l = 0 then 0 else 1

set_option maxRecDepth 100000 in
set_option maxHeartbeats 4000000 in
theorem m_Jxf58ca_isNaN_12338 {X : kn_X} {σ : kn_S} {τ : kn_T} {z : kn_Z} {c n : Nat} {Q : kn_Q} {f : UInt32} (hQ : Q (.inl (some (.int (kg_nan f)))) σ τ z) : kn_Ev X MJxf58ca_isNaN_12338 [.float f] σ τ z c n Q := by
  refine kn_entryJ (by decide +kernel) rfl (Nat.le_of_ble_eq_true rfl) ?_
  show kn_Go X MJxf58ca_isNaN_12338 0 [(0, .float f)] [] _ _ _ _ _ _
  refine k_fload_n 0 dJxf58ca_isNaN_12338_0 rfl rfl ?_
  refine k_fload_n 0 dJxf58ca_isNaN_12338_1 rfl rfl ?_
  refine k_fcmp dJxf58ca_isNaN_12338_2 ?_
  refine k_ifeq 10 dJxf58ca_isNaN_12338_3 (by decide) (fun h3 => ?_) (fun h3 => ?_)
  · refine k_iconst (0) dJxf58ca_isNaN_12338_10 (by decide) ?_
    refine k_iret dJxf58ca_isNaN_12338_11 rfl (rfl) ?_
    dsimp only [kg_nan] at hQ
    rw [if_pos h3] at hQ
    exact hQ
  · refine k_iconst (1) dJxf58ca_isNaN_12338_6 (by decide) ?_
    refine k_goto 11 dJxf58ca_isNaN_12338_7 (by decide) ?_
    refine k_iret dJxf58ca_isNaN_12338_11 rfl (rfl) ?_
    dsimp only [kg_nan] at hQ
    rw [if_neg h3] at hQ
    exact hQ

theorem m_Jxf58ca_floatToIntBits_5c35a {X : kn_X} {σ : kn_S} {τ : kn_T} {z : kn_Z} {c n : Nat} {Q : kn_Q} {f : UInt32} (hn : kg_nan f = 0) (hQ : Q (.inl (some (.int f.toInt32))) σ τ z) : kn_Ev X MJxf58ca_floatToIntBits_5c35a [.float f] σ τ z c n Q := by
  refine kn_entryJ (by decide +kernel) rfl (Nat.le_of_ble_eq_true rfl) ?_
  show kn_Go X MJxf58ca_floatToIntBits_5c35a 0 [(0, .float f)] [] _ _ _ _ _ _
  refine k_fload_n 0 dJxf58ca_floatToIntBits_5c35a_0 rfl rfl ?_
  refine k_invS (As := [_]) dJxf58ca_floatToIntBits_5c35a_1 mm_Jxf58ca_isNaN_12338 wL_Jxf58ca_59 ⟨by decide, by decide⟩ rfl rfl (Nat.le_of_ble_eq_true rfl) (Nat.zero_le _) (Nat.zero_le _) (m_Jxf58ca_isNaN_12338 ⟨rfl, ?_⟩)
  refine k_ifne 12 dJxf58ca_floatToIntBits_5c35a_4 (by decide) (fun h => absurd hn h) (fun h => ?_)
  refine k_fload_n 0 dJxf58ca_floatToIntBits_5c35a_7 rfl rfl ?_
  refine k_f2raw dJxf58ca_floatToIntBits_5c35a_8 (kn_in 990 (by decide +kernel) (by decide +kernel)) (kn_in 992 (by decide +kernel) (by decide +kernel)) (kn_in 991 (by decide +kernel) (by decide +kernel)) (kn_in 53 (by decide +kernel) (by decide +kernel)) ⟨by decide, by decide⟩ ?_
  refine k_iret dJxf58ca_floatToIntBits_5c35a_11 rfl (rfl) ?_
  exact hQ

set_option maxRecDepth 100000 in
set_option maxHeartbeats 4000000 in
theorem m_X7_rateBits {X : kn_X} {σ : kn_S} {τ : kn_T} {z : kn_Z} {c n : Nat} {Q : kn_Q} {m : Nat} (hM : kn_isM z) (hm8 : σ 129 8 = nI m) (hm : 1 ≤ m ∧ m ≤ 8) (h1 : ¬ σ 129 9 = 0 → vf_n32 (FP.fdiv (FP.i2f (kg_sum (kn_up σ 128 4 0) 41 m)) (FP.i2f (σ 129 9))) ∧ kg_nan (FP.fdiv (FP.i2f (kg_sum (kn_up σ 128 4 0) 41 m)) (FP.i2f (σ 129 9))) = 0) (hQ1 : σ 129 9 = 0 → Q (.inl (some (.int (0)))) (kn_up σ 128 4 0) τ z) (hQ2 : ¬ σ 129 9 = 0 → Q (.inl (some (.int (FP.fdiv (FP.i2f (kg_sum (kn_up σ 128 4 0) 41 m)) (FP.i2f (σ 129 9))).toInt32))) (kn_up σ 128 4 0) τ z) : kn_Ev X MX7_rateBits [.ref 128] σ τ z c n Q := by
  refine kn_entry (by decide +kernel) rfl (Nat.le_of_ble_eq_true rfl) ?_
  show kn_Go X MX7_rateBits 0 [(0, .ref 128)] [] _ _ _ _ _ _
  have lp9 : ∀ r9 : Nat, ∀ j : Nat, j + r9 = m → kn_Go X MX7_rateBits 9 [(2, .int (nI j)), (1, .int (kg_sum (kn_up σ 128 4 0) 41 j)), (0, .ref 128)] [] (kn_up σ 128 4 0) τ z c n Q := by
    intro r9
    induction r9 with
    | zero =>
      intro j hj
      obtain rfl : j = m := by omega
      refine k_iload_n 2 dX7_rateBits_9 rfl rfl ?_
      refine k_aload_n 0 dX7_rateBits_10 rfl rfl ?_
      refine k_getfield dX7_rateBits_11 hc_X7 hM.1.1 hM.1.2 0 (by decide) wF_X7_7 rfl ?_
      refine k_bipush (8) dX7_rateBits_14 (by decide) ?_
      refine k_ialoadV (8) dX7_rateBits_16 hM.2.1.1 hM.2.1.2 (rfl) (⟨by omega, by decide⟩) (hm8) ?_
      refine k_icmpge 38 dX7_rateBits_17 (by decide) (fun h17 => ?_) (fun h17 => ?_)
      · refine k_aload_n 0 dX7_rateBits_38 rfl rfl ?_
        refine k_getfield dX7_rateBits_39 hc_X7 hM.1.1 hM.1.2 0 (by decide) wF_X7_7 rfl ?_
        refine k_bipush (9) dX7_rateBits_42 (by decide) ?_
        refine k_ialoadV (9) dX7_rateBits_44 hM.2.1.1 hM.2.1.2 (rfl) (⟨by omega, by decide⟩) ((rfl : _ = σ 129 9)) ?_
        refine k_ifne 52 dX7_rateBits_45 (by decide) (fun h45 => ?_) (fun h45 => ?_)
        · refine k_iload_n 1 dX7_rateBits_52 rfl rfl ?_
          refine k_i2f dX7_rateBits_53 ?_
          refine k_aload_n 0 dX7_rateBits_54 rfl rfl ?_
          refine k_getfield dX7_rateBits_55 hc_X7 hM.1.1 hM.1.2 0 (by decide) wF_X7_7 rfl ?_
          refine k_bipush (9) dX7_rateBits_58 (by decide) ?_
          refine k_ialoadV (9) dX7_rateBits_60 hM.2.1.1 hM.2.1.2 (rfl) (⟨by omega, by decide⟩) ((rfl : _ = σ 129 9)) ?_
          refine k_i2f dX7_rateBits_61 ?_
          refine k_fdiv dX7_rateBits_62 ((h1 h45).1) ?_
          refine k_invS (As := [_]) dX7_rateBits_63 mm_Jxf58ca_floatToIntBits_5c35a wL_X7_126 ⟨by decide, by decide⟩ rfl rfl (Nat.le_of_ble_eq_true rfl) (Nat.zero_le _) (Nat.zero_le _) (m_Jxf58ca_floatToIntBits_5c35a (h1 h45).2 ⟨rfl, ?_⟩)
          refine k_iret dX7_rateBits_66 rfl (rfl) ?_
          exact hQ2 h45
        · refine k_iconst (0) dX7_rateBits_48 (by decide) ?_
          refine k_goto 66 dX7_rateBits_49 (by decide) ?_
          refine k_iret dX7_rateBits_66 rfl (rfl) ?_
          exact hQ1 h45
      · exact absurd (nI_le (Nat.le_refl _) (by omega)) h17
    | succ r9 ih =>
      intro j hj
      refine k_iload_n 2 dX7_rateBits_9 rfl rfl ?_
      refine k_aload_n 0 dX7_rateBits_10 rfl rfl ?_
      refine k_getfield dX7_rateBits_11 hc_X7 hM.1.1 hM.1.2 0 (by decide) wF_X7_7 rfl ?_
      refine k_bipush (8) dX7_rateBits_14 (by decide) ?_
      refine k_ialoadV (8) dX7_rateBits_16 hM.2.1.1 hM.2.1.2 (rfl) (⟨by omega, by decide⟩) (hm8) ?_
      refine k_icmpge 38 dX7_rateBits_17 (by decide) (fun h17 => ?_) (fun h17 => ?_)
      · exact absurd h17 (nI_ge (by omega) (by omega))
      · refine k_iload_n 1 dX7_rateBits_20 rfl rfl ?_
        refine k_aload_n 0 dX7_rateBits_21 rfl rfl ?_
        refine k_getfield dX7_rateBits_22 hc_X7 hM.1.1 hM.1.2 0 (by decide) wF_X7_7 rfl ?_
        refine k_bipush (41) dX7_rateBits_25 (by decide) ?_
        refine k_iload_n 2 dX7_rateBits_27 rfl rfl ?_
        refine k_iadd dX7_rateBits_28 ?_
        refine k_ialoadN ((41 + j)) dX7_rateBits_29 hM.2.1.1 hM.2.1.2 ((kg_add rfl rfl)) (⟨by omega, by decide⟩) ?_
        refine k_iadd dX7_rateBits_30 ?_
        refine k_istore_n 1 (lv' := [(1, _), (2, _), (0, _)]) dX7_rateBits_31 rfl (by decide) rfl ?_
        refine k_iinc (nI (j + 1)) (lv' := [(2, _), (1, _), (0, _)]) dX7_rateBits_32 rfl (kn_inc j) (by decide) rfl ?_
        refine k_goto 9 dX7_rateBits_35 (by decide) ?_
        exact ih (j + 1) (by omega)
  refine k_aload_n 0 dX7_rateBits_0 rfl rfl ?_
  refine k_iconst (0) dX7_rateBits_1 (by decide) ?_
  refine k_putfield dX7_rateBits_2 hc_X7 hM.1.1 hM.1.2 4 (by decide) wF_X7_27 rfl rfl (t9 := .int) (by decide +kernel) rfl rfl ?_
  refine k_iconst (0) dX7_rateBits_5 (by decide) ?_
  refine k_istore_n 1 (lv' := [(1, _), (0, _)]) dX7_rateBits_6 rfl (by decide) rfl ?_
  refine k_iconst (0) dX7_rateBits_7 (by decide) ?_
  refine k_istore_n 2 (lv' := [(2, _), (1, _), (0, _)]) dX7_rateBits_8 rfl (by decide) rfl ?_
  exact lp9 m 0 (by omega)
