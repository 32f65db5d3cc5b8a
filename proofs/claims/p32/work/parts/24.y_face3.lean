-- the face: octane, the rate, the digest
theorem wK_X6_218 : Cond.constantFloat RX6 218 1258291200 ∈ kn_ws := kn_in 723 (by decide +kernel) (by decide +kernel)
theorem kn_dcr (r : Nat) : nI (r + 1 + 1) + Int32.ofInt (-1) = nI (r + 1) := by
  have h : nI (r + 1 + 1) = nI (r + 1) + Int32.ofInt 1 := (nI_1 (r + 1)).symm
  rw [h, Int32.add_assoc]
  exact Int32.add_zero _
def kf_dgF (f : Int32 → Int32) (h : Int64) : Nat → Int64
  | 0 => h
  | j + 1 => 31 * kf_dgF f h j + (f (nI j)).toInt64
def kf_dgN (f : Int32 → Int32 → Int32) (k : Nat) (h : Int64) : Nat → Int64
  | 0 => h
  | j + 1 => kf_dgF (f (nI j)) (kf_dgN f k h j) k
theorem kf_dgF_0 (f : Int32 → Int32) (h : Int64) : kf_dgF f h 0 = h := rfl
theorem kf_dgF_s (f : Int32 → Int32) (h : Int64) (j : Nat) : kf_dgF f h (j + 1) = 31 * kf_dgF f h j + (f (nI j)).toInt64 := rfl
theorem kf_dgN_0 (f : Int32 → Int32 → Int32) (k : Nat) (h : Int64) : kf_dgN f k h 0 = h := rfl
theorem kf_dgN_s (f : Int32 → Int32 → Int32) (k : Nat) (h : Int64) (j : Nat) : kf_dgN f k h (j + 1) = kf_dgF (f (nI j)) (kf_dgN f k h j) k := rfl
abbrev kn_F1 := (Int32 → Int32) → Int64 → Nat → Int64
abbrev kn_N1 := (Int32 → Int32 → Int32) → Nat → Int64 → Nat → Int64
def kf_dg5 (F9 : kn_F1) (N9 : kn_N1) (s : kn_S) (lc : Nat) (h : Int64) : Int64 := 31 * N9 (kf_about s 14) 3 (31 * h + (s 14 4).toInt64) lc + (s 41 2).toInt64
def kf_dg4 (F9 : kn_F1) (N9 : kn_N1) (s : kn_S) (lc : Nat) (h : Int64) : Int64 := kf_dg5 F9 N9 s lc (F9 (kf_at (s 13) 24) h 24)
def kf_dg3 (F9 : kn_F1) (N9 : kn_N1) (s : kn_S) (m lc : Nat) (h : Int64) : Int64 := kf_dg4 F9 N9 s lc (N9 (kf_aboutCyl s 1) 5 h m)
def kf_dg2 (F9 : kn_F1) (N9 : kn_N1) (s : kn_S) (m lc : Nat) (h : Int64) : Int64 := kf_dg3 F9 N9 s m lc (F9 (kf_aboutCtl s 1) h 5)
def kf_dg1 (F9 : kn_F1) (N9 : kn_N1) (s : kn_S) (m lc : Nat) (h : Int64) : Int64 := kf_dg2 F9 N9 s m lc (31 * (31 * (31 * (31 * h + (s 1 13).toInt64) + (s 1 14).toInt64) + (s 1 15).toInt64) + if s 1 16 = 0 then 0 else 1)
def kf_dg (F9 : kn_F1) (N9 : kn_N1) (s : kn_S) (m lc : Nat) : Int64 := kf_dg1 F9 N9 s m lc (F9 (kf_setOr s 1) (31 * 2969 + (s 123 2).toInt64) 9)
def kf_octR (p : Int32 × Int32) : UInt64 := if p.2 ≤ 0 then 4636737291354636288 else FP.dsub 4636737291354636288 (FP.ddiv (FP.ddiv (FP.i2d p.1) (FP.i2d p.2)) 4611686018427387904)
def kf_bosL : Nat → UInt32 → UInt32 × Nat
  | 0, f => (f, 1)
  | k + 1, f => if 0 ≤ Op.cmpValue (FP.fcmp f 0x3f800000) .g then (f, k + 2) else kf_bosL k (FP.fmul f 0x40000000)
def kf_bosR (p : UInt32 × Nat) : Int32 := nI p.2 * 8388608 + FP.f2i (FP.fmul (FP.fsub p.1 0x3f800000) 1258291200)
def kf_bos (f : UInt32) : Int32 := if 0 < Op.cmpValue (FP.fcmp f 0) .l then kf_bosR (kf_bosL 126 f) else 0

set_option maxRecDepth 100000 in
set_option maxHeartbeats 4000000 in
theorem m_X6_octane {X : kn_X} {σ : kn_S} {τ : kn_T} {z : kn_Z} {c n : Nat} {Q : kn_Q} {x : Int32} (hK : kn_isK z) (h1 : ¬ (kf_oct (σ 13) x 6).2 ≤ 0 → vf_n64 (FP.ddiv (FP.i2d (kf_oct (σ 13) x 6).1) (FP.i2d (kf_oct (σ 13) x 6).2)) ∧ vf_n64 (FP.ddiv (FP.ddiv (FP.i2d (kf_oct (σ 13) x 6).1) (FP.i2d (kf_oct (σ 13) x 6).2)) 4611686018427387904) ∧ vf_n64 (FP.dsub 4636737291354636288 (FP.ddiv (FP.ddiv (FP.i2d (kf_oct (σ 13) x 6).1) (FP.i2d (kf_oct (σ 13) x 6).2)) 4611686018427387904))) (hQ : ¬ (kf_within x 0 3) = 0 → Q (.inl (some (.double (kf_octR (kf_oct (σ 13) x 6))))) σ τ z) (hNp : (kf_within x 0 3) = 0 → Q (.inr "java/lang/IndexOutOfBoundsException") σ τ z) : kn_Ev X MX6_octane [.ref 0, .int x] σ τ z (c + 1) (n + 6) Q := by
  refine kn_entry (by decide +kernel) rfl (Nat.le_of_ble_eq_true rfl) ?_
  show kn_Go X MX6_octane 0 [(0, .ref 0), (1, .int x)] [] _ _ _ _ _ _
  have lp16 : ∀ r9 : Nat, ∀ j : Nat, j + r9 = 6 → ¬ (kf_within x 0 3) = 0 → kn_Go X MX6_octane 16 [(4, .int (nI j)), (3, .int (kf_oct (σ 13) x j).2), (2, .int (kf_oct (σ 13) x j).1), (0, .ref 0), (1, .int x)] [] σ τ z c n Q := by
    intro r9
    induction r9 with
    | zero =>
      intro j hj hp
      obtain rfl : j = 6 := by omega
      refine k_iload dX6_octane_16 rfl ?_
      refine k_bipush (6) dX6_octane_18 (by decide) ?_
      refine k_icmpge 60 dX6_octane_20 (by decide) (fun h20 => ?_) (fun h20 => ?_)
      · refine k_iload_n 3 dX6_octane_60 rfl rfl ?_
        refine k_ifle 80 dX6_octane_61 (by decide) (fun h61 => ?_) (fun h61 => ?_)
        · refine k_ldc2d dX6_octane_80 wK_X6_146 ?_
          refine k_dret dX6_octane_83 rfl ?_
          have h9 := hQ hp
          rw [kf_octR, if_pos h61] at h9
          exact h9
        · refine k_ldc2d dX6_octane_64 wK_X6_146 ?_
          refine k_iload_n 2 dX6_octane_67 rfl rfl ?_
          refine k_i2d dX6_octane_68 ?_
          refine k_iload_n 3 dX6_octane_69 rfl rfl ?_
          refine k_i2d dX6_octane_70 ?_
          refine k_ddiv dX6_octane_71 ((h1 h61).1) ?_
          refine k_ldc2d dX6_octane_72 wK_X6_148 ?_
          refine k_ddiv dX6_octane_75 ((h1 h61).2.1) ?_
          refine k_dsub dX6_octane_76 ((h1 h61).2.2) ?_
          refine k_goto 83 dX6_octane_77 (by decide) ?_
          refine k_dret dX6_octane_83 rfl ?_
          have h9 := hQ hp
          rw [kf_octR, if_neg h61] at h9
          exact h9
      · exact absurd (show (6 : Int32) ≤ nI 6 by decide) h20
    | succ r9 ih =>
      intro j hj hp
      refine k_iload dX6_octane_16 rfl ?_
      refine k_bipush (6) dX6_octane_18 (by decide) ?_
      refine k_icmpge 60 dX6_octane_20 (by decide) (fun h20 => ?_) (fun h20 => ?_)
      · exact absurd h20 (show ¬ (nI 6) ≤ nI j from nI_ge (by omega) (by omega))
      · refine k_aload_n 0 dX6_octane_23 rfl rfl ?_
        refine k_getfield dX6_octane_24 hc_X6 hK.1.1 hK.1.2 0 (by decide) wF_X6_12 rfl ?_
        refine k_getfieldN dX6_octane_27 hc_X5 hK.2.1.1.1 hK.2.1.1.2 5 (by decide) wNF_X6_80 rfl ?_
        refine k_iconst (4) dX6_octane_30 (by decide) ?_
        refine k_iload dX6_octane_31 rfl ?_
        refine k_imul dX6_octane_33 ?_
        refine k_iload_n 1 dX6_octane_34 rfl rfl ?_
        refine k_iadd dX6_octane_35 ?_
        refine k_invV (As := [_]) dX6_octane_36 mm_X4_at wL_X6_61 ⟨by decide, by decide⟩ hK.2.1.2.2.2.2.2.2.1.1.1 hK.2.1.2.2.2.2.2.2.1.1.2 rfl rfl (Nat.le_of_ble_eq_true rfl) (Nat.zero_le _) (Nat.zero_le _) (m_X4_at hK.2.1.2.2.2.2.2.2.1 (Nat.le_of_ble_eq_true rfl) ⟨rfl, ?_⟩)
        refine k_istore (lv' := [(5, _), (4, _), (3, _), (2, _), (0, _), (1, _)]) dX6_octane_39 (by decide) rfl ?_
        refine k_iload dX6_octane_41 rfl ?_
        refine k_ifle 54 dX6_octane_43 (by decide) (fun h43 => ?_) (fun h43 => ?_)
        · refine k_iinc (nI (j + 1)) (lv' := [(4, _), (5, _), (3, _), (2, _), (0, _), (1, _)]) dX6_octane_54 rfl (kn_inc j) (by decide) rfl ?_
          refine k_goto 16 dX6_octane_57 (by decide) ?_
          refine k_re [4, 3, 2, 0, 1] (lv' := [(4, _), (3, _), (2, _), (0, _), (1, _)]) rfl ?_
          have e9 : kf_oct (σ 13) x (j + 1) = if kf_at (σ 13) 24 (4 * nI j + x) ≤ 0 then kf_oct (σ 13) x j else ((kf_oct (σ 13) x j).1 + kf_at (σ 13) 24 (4 * nI j + x), (kf_oct (σ 13) x j).2 + 1) := rfl
          rw [if_pos h43] at e9
          have h9 := ih (j + 1) (by omega) hp
          rw [e9] at h9
          exact h9
        · refine k_iload_n 2 dX6_octane_46 rfl rfl ?_
          refine k_iload dX6_octane_47 rfl ?_
          refine k_iadd dX6_octane_49 ?_
          refine k_istore_n 2 (lv' := [(2, _), (5, _), (4, _), (3, _), (0, _), (1, _)]) dX6_octane_50 rfl (by decide) rfl ?_
          refine k_iinc _ (lv' := [(3, _), (2, _), (5, _), (4, _), (0, _), (1, _)]) dX6_octane_51 rfl (rfl) (by decide) rfl ?_
          refine k_iinc (nI (j + 1)) (lv' := [(4, _), (3, _), (2, _), (5, _), (0, _), (1, _)]) dX6_octane_54 rfl (kn_inc j) (by decide) rfl ?_
          refine k_goto 16 dX6_octane_57 (by decide) ?_
          refine k_re [4, 3, 2, 0, 1] (lv' := [(4, _), (3, _), (2, _), (0, _), (1, _)]) rfl ?_
          have e9 : kf_oct (σ 13) x (j + 1) = if kf_at (σ 13) 24 (4 * nI j + x) ≤ 0 then kf_oct (σ 13) x j else ((kf_oct (σ 13) x j).1 + kf_at (σ 13) 24 (4 * nI j + x), (kf_oct (σ 13) x j).2 + 1) := rfl
          rw [if_neg h43] at e9
          have h9 := ih (j + 1) (by omega) hp
          rw [e9] at h9
          exact h9
  refine k_iload_n 1 dX6_octane_0 rfl rfl ?_
  refine k_iconst (0) dX6_octane_1 (by decide) ?_
  refine k_iconst (3) dX6_octane_2 (by decide) ?_
  refine k_invS (As := [_, _, _]) dX6_octane_3 mm_X6_within wL_X6_33 ⟨by decide, by decide⟩ rfl rfl (Nat.le_of_ble_eq_true rfl) (Nat.zero_le _) (Nat.zero_le _) (m_X6_within ⟨rfl, ?_⟩)
  refine k_invS (As := [_]) dX6_octane_6 mm_X6_demandPlace wL_X6_77 ⟨by decide, by decide⟩ rfl rfl (Nat.le_of_ble_eq_true rfl) (c1 := 1) (n1 := 6) (by omega) (by omega) (m_X6_demandPlace (fun hp => ⟨rfl, ?_⟩) (fun hp => ⟨rfl, k_thOut rfl (hNp hp)⟩))
  refine k_iconst (0) dX6_octane_9 (by decide) ?_
  refine k_istore_n 2 (lv' := [(2, _), (0, _), (1, _)]) dX6_octane_10 rfl (by decide) rfl ?_
  refine k_iconst (0) dX6_octane_11 (by decide) ?_
  refine k_istore_n 3 (lv' := [(3, _), (2, _), (0, _), (1, _)]) dX6_octane_12 rfl (by decide) rfl ?_
  refine k_iconst (0) dX6_octane_13 (by decide) ?_
  refine k_istore (lv' := [(4, _), (3, _), (2, _), (0, _), (1, _)]) dX6_octane_14 (by decide) rfl ?_
  exact lp16 6 0 (by omega) hp

set_option maxRecDepth 100000 in
set_option maxHeartbeats 4000000 in
theorem m_X6_bitsOfShare {X : kn_X} {σ : kn_S} {τ : kn_T} {z : kn_Z} {c n : Nat} {Q : kn_Q} {f : UInt32} (hf : True) (hm2 : ∀ g : UInt32, vf_n32 g → vf_n32 (FP.fmul g 0x40000000)) (hs1 : vf_n32 f ∧ ∀ g : UInt32, vf_n32 g → vf_n32 (FP.fsub g 0x3f800000) ∧ vf_n32 (FP.fmul (FP.fsub g 0x3f800000) 1258291200)) (hQ : Q (.inl (some (.int (kf_bos f)))) σ τ z) : kn_Ev X MX6_bitsOfShare [.float f] σ τ z c n Q := by
  refine kn_entry (by decide +kernel) rfl (Nat.le_of_ble_eq_true rfl) ?_
  show kn_Go X MX6_bitsOfShare 0 [(0, .float f)] [] _ _ _ _ _ _
  have lp13 : ∀ r9 : Nat, ∀ g : UInt32, vf_n32 g → Q (.inl (some (.int (kf_bosR (kf_bosL r9 g))))) σ τ z → r9 ≤ 126 → kn_Go X MX6_bitsOfShare 13 [(2, .int (nI (r9 + 1))), (1, .float g), (0, .float f)] [] σ τ z c n Q := by
    intro r9
    induction r9 with
    | zero =>
      intro g hg hQ hr
      refine k_fload_n 1 dX6_bitsOfShare_13 rfl rfl ?_
      refine k_fconst1 dX6_bitsOfShare_14 ?_
      refine k_fcmp dX6_bitsOfShare_15 ?_
      refine k_ifge 34 dX6_bitsOfShare_16 (by decide) (fun h16 => ?_) (fun h16 => ?_)
      · refine k_iload_n 2 dX6_bitsOfShare_34 rfl rfl ?_
        refine k_ldc dX6_bitsOfShare_35 wK_X6_217 ?_
        refine k_imul dX6_bitsOfShare_37 ?_
        refine k_fload_n 1 dX6_bitsOfShare_38 rfl rfl ?_
        refine k_fconst1 dX6_bitsOfShare_39 ?_
        refine k_fsub dX6_bitsOfShare_40 ((hs1.2 g hg).1) ?_
        refine k_ldcf dX6_bitsOfShare_41 wK_X6_218 ?_
        refine k_fmul dX6_bitsOfShare_43 ((hs1.2 g hg).2) ?_
        refine k_f2i dX6_bitsOfShare_44 ?_
        refine k_iadd dX6_bitsOfShare_45 ?_
        refine k_iret dX6_bitsOfShare_46 rfl (rfl) ?_
        exact hQ
      · refine k_iload_n 2 dX6_bitsOfShare_19 rfl rfl ?_
        refine k_iconst (1) dX6_bitsOfShare_20 (by decide) ?_
        refine k_icmple 34 dX6_bitsOfShare_21 (by decide) (fun h21 => ?_) (fun h21 => ?_)
        · refine k_iload_n 2 dX6_bitsOfShare_34 rfl rfl ?_
          refine k_ldc dX6_bitsOfShare_35 wK_X6_217 ?_
          refine k_imul dX6_bitsOfShare_37 ?_
          refine k_fload_n 1 dX6_bitsOfShare_38 rfl rfl ?_
          refine k_fconst1 dX6_bitsOfShare_39 ?_
          refine k_fsub dX6_bitsOfShare_40 ((hs1.2 g hg).1) ?_
          refine k_ldcf dX6_bitsOfShare_41 wK_X6_218 ?_
          refine k_fmul dX6_bitsOfShare_43 ((hs1.2 g hg).2) ?_
          refine k_f2i dX6_bitsOfShare_44 ?_
          refine k_iadd dX6_bitsOfShare_45 ?_
          refine k_iret dX6_bitsOfShare_46 rfl (rfl) ?_
          exact hQ
        · exact absurd (show nI (0 + 1) ≤ 1 by decide) h21
    | succ r9 ih =>
      intro g hg hQ hr
      refine k_fload_n 1 dX6_bitsOfShare_13 rfl rfl ?_
      refine k_fconst1 dX6_bitsOfShare_14 ?_
      refine k_fcmp dX6_bitsOfShare_15 ?_
      refine k_ifge 34 dX6_bitsOfShare_16 (by decide) (fun h16 => ?_) (fun h16 => ?_)
      · refine k_iload_n 2 dX6_bitsOfShare_34 rfl rfl ?_
        refine k_ldc dX6_bitsOfShare_35 wK_X6_217 ?_
        refine k_imul dX6_bitsOfShare_37 ?_
        refine k_fload_n 1 dX6_bitsOfShare_38 rfl rfl ?_
        refine k_fconst1 dX6_bitsOfShare_39 ?_
        refine k_fsub dX6_bitsOfShare_40 ((hs1.2 g hg).1) ?_
        refine k_ldcf dX6_bitsOfShare_41 wK_X6_218 ?_
        refine k_fmul dX6_bitsOfShare_43 ((hs1.2 g hg).2) ?_
        refine k_f2i dX6_bitsOfShare_44 ?_
        refine k_iadd dX6_bitsOfShare_45 ?_
        refine k_iret dX6_bitsOfShare_46 rfl (rfl) ?_
        rw [kf_bosL, if_pos h16] at hQ
        exact hQ
      · refine k_iload_n 2 dX6_bitsOfShare_19 rfl rfl ?_
        refine k_iconst (1) dX6_bitsOfShare_20 (by decide) ?_
        refine k_icmple 34 dX6_bitsOfShare_21 (by decide) (fun h21 => ?_) (fun h21 => ?_)
        · exact absurd h21 (show ¬ nI (r9 + 1 + 1) ≤ nI 1 from nI_ge (by omega) (by omega))
        · refine k_fload_n 1 dX6_bitsOfShare_24 rfl rfl ?_
          refine k_fconst2 dX6_bitsOfShare_25 ?_
          refine k_fmul dX6_bitsOfShare_26 (hm2 g hg) ?_
          refine k_fstore_n 1 (lv' := [(1, _), (2, _), (0, _)]) dX6_bitsOfShare_27 rfl (by decide) rfl ?_
          refine k_iinc (nI (r9 + 1)) (lv' := [(2, _), (1, _), (0, _)]) dX6_bitsOfShare_28 rfl (kn_dcr r9) (by decide) rfl ?_
          refine k_goto 13 dX6_bitsOfShare_31 (by decide) ?_
          rw [kf_bosL, if_neg h16] at hQ
          exact ih _ (hm2 g hg) hQ (by omega)
  refine k_fload_n 0 dX6_bitsOfShare_0 rfl rfl ?_
  refine k_fconst0 dX6_bitsOfShare_1 ?_
  refine k_fcmp dX6_bitsOfShare_2 ?_
  refine k_ifgt 8 dX6_bitsOfShare_3 (by decide) (fun h3 => ?_) (fun h3 => ?_)
  · refine k_fload_n 0 dX6_bitsOfShare_8 rfl rfl ?_
    refine k_fstore_n 1 (lv' := [(1, _), (0, _)]) dX6_bitsOfShare_9 rfl (by decide) rfl ?_
    refine k_bipush (127) dX6_bitsOfShare_10 (by decide) ?_
    refine k_istore_n 2 (lv' := [(2, _), (1, _), (0, _)]) dX6_bitsOfShare_12 rfl (by decide) rfl ?_
    rw [kf_bos, if_pos h3] at hQ
    exact lp13 126 f hs1.1 hQ (by omega)
  · refine k_iconst (0) dX6_bitsOfShare_6 (by decide) ?_
    refine k_iret dX6_bitsOfShare_7 rfl (rfl) ?_
    rw [kf_bos, if_neg h3] at hQ
    exact hQ

set_option maxRecDepth 100000 in
set_option maxHeartbeats 4000000 in
theorem m_X6_rateBits {X : kn_X} {σ : kn_S} {τ : kn_T} {z : kn_Z} {c n : Nat} {Q : kn_Q} {m : Nat} (hK : kn_isK z) (hcy : σ 1 7 = nI m) (hm : 1 ≤ m ∧ m ≤ 8) (hm2 : ∀ g : UInt32, vf_n32 g → vf_n32 (FP.fmul g 0x40000000)) (hs1 : ∀ g : UInt32, vf_n32 g → vf_n32 (FP.fsub g 0x3f800000) ∧ vf_n32 (FP.fmul (FP.fsub g 0x3f800000) 1258291200)) (h1 : 0 < σ 1 13 → vf_n32 (FP.fdiv (FP.i2f (kf_fold (σ 11) kf_add 0 m)) (FP.i2f (σ 1 13)))) (hQ1 : ¬ 0 < σ 1 13 → Q (.inl (some (.int 0))) σ τ z) (hQ2 : 0 < σ 1 13 → Q (.inl (some (.int (kf_bos (FP.fdiv (FP.i2f (kf_fold (σ 11) kf_add 0 m)) (FP.i2f (σ 1 13))))))) σ τ z) : kn_Ev X MX6_rateBits [.ref 0] σ τ z c n Q := by
  refine kn_entry (by decide +kernel) rfl (Nat.le_of_ble_eq_true rfl) ?_
  show kn_Go X MX6_rateBits 0 [(0, .ref 0)] [] _ _ _ _ _ _
  refine k_aload_n 0 dX6_rateBits_0 rfl rfl ?_
  refine k_getfield dX6_rateBits_1 hc_X6 hK.1.1 hK.1.2 0 (by decide) wF_X6_12 rfl ?_
  refine k_getfieldN dX6_rateBits_4 hc_X5 hK.2.1.1.1 hK.2.1.1.2 13 (by decide) wNF_X6_41 rfl ?_
  refine k_ifgt 12 dX6_rateBits_7 (by decide) (fun h7 => ?_) (fun h7 => ?_)
  · refine k_aload_n 0 dX6_rateBits_12 rfl rfl ?_
    refine k_getfield dX6_rateBits_13 hc_X6 hK.1.1 hK.1.2 0 (by decide) wF_X6_12 rfl ?_
    refine k_invV (As := []) dX6_rateBits_16 mm_X5_allKnocks wL_X6_139 ⟨by decide, by decide⟩ hK.2.1.1.1 hK.2.1.1.2 rfl rfl (Nat.le_of_ble_eq_true rfl) (Nat.zero_le _) (Nat.zero_le _) (m_X5_allKnocks hK.2.1 hcy hm ⟨rfl, ?_⟩)
    refine k_i2f dX6_rateBits_19 ?_
    refine k_aload_n 0 dX6_rateBits_20 rfl rfl ?_
    refine k_getfield dX6_rateBits_21 hc_X6 hK.1.1 hK.1.2 0 (by decide) wF_X6_12 rfl ?_
    refine k_getfieldN dX6_rateBits_24 hc_X5 hK.2.1.1.1 hK.2.1.1.2 13 (by decide) wNF_X6_41 rfl ?_
    refine k_i2f dX6_rateBits_27 ?_
    refine k_fdiv dX6_rateBits_28 (h1 h7) ?_
    refine k_invS (As := [_]) dX6_rateBits_29 mm_X6_bitsOfShare wL_X6_142 ⟨by decide, by decide⟩ rfl rfl (Nat.le_of_ble_eq_true rfl) (Nat.zero_le _) (Nat.zero_le _) (m_X6_bitsOfShare trivial hm2 ⟨h1 h7, hs1⟩ ⟨rfl, ?_⟩)
    refine k_iret dX6_rateBits_32 rfl (rfl) ?_
    exact hQ2 h7
  · refine k_iconst (0) dX6_rateBits_10 (by decide) ?_
    refine k_iret dX6_rateBits_11 rfl (rfl) ?_
    exact hQ1 h7

