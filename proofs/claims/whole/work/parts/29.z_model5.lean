-- the model: looking ahead, the digest
def kg_it (s : kn_S) (m cl : Nat) (x y w : Int32) : Nat → kn_S
  | 0 => s
  | j + 1 => kg_fs (kg_it s m cl x y w j) m cl x y w
def kg_qL (s : kn_S) (m cl : Nat) (x y w : Int32) : Nat → Nat → Int32 → Nat × Int32
  | 0, j, q => (j, q)
  | r + 1, j, q => if 5 * nI m ≤ q then (j, q) else kg_qL s m cl x y w r (j + 1) (if kg_fa (kg_it s m cl x y w j) m cl x y w = 1 then 0 else q + 1)
abbrev kg_as (s : kn_S) : kn_S := kg_cpy (kn_up s 128 4 0) 131 0 129 0 254
abbrev kg_bk (s : kn_S) : kn_S := kg_cpy s 129 0 131 0 254
def kg_dgS (N9 : Int64 → Nat → Int64) (s : kn_S) (m fi lc : Nat) : Int64 := 31 * kg_hA (s 129) 73 (kg_hA (s 129) 49 (N9 (kg_hA (s 129) 12 (31 * (31 * (31 * (31 * kg_hA (s 129) 0 (31 * 2969 + (s 128 6).toInt64) 9 + (s 129 9).toInt64) + (nI (fi % m)).toInt64) + (s 129 10).toInt64) + (s 129 11).toInt64) 5) m) 24) (1 + 3 * lc) + (s 128 3).toInt64

set_option maxRecDepth 100000 in
set_option maxHeartbeats 4000000 in
theorem m_X7_quietAfter {X : kn_X} {σ : kn_S} {τ : kn_T} {z : kn_Z} {c n : Nat} {Q : kn_Q} {m cl : Nat} {x y w : Int32} (hM : kn_isM z) (hce : ¬ kf_isOp x y = 0 → kf_cell x y = nI cl ∧ cl < 24) (hF : ¬ kf_isOp x y = 0 → ¬ kf_within w 80 110 = 0 → (∀ j, j < 1000 → kg_fp (kg_it (kg_as σ) m cl x y w j) m cl x y w) ∧ (∀ j, j ≤ 1000 → (kg_it (kg_as σ) m cl x y w j) 129 8 = nI m)) (hQ : ¬ kf_isOp x y = 0 → ¬ kf_within w 80 110 = 0 → Q (.inl (some (.int (if (kg_qL (kg_as σ) m cl x y w 1000 0 0).2 = 5 * nI m then nI (kg_qL (kg_as σ) m cl x y w 1000 0 0).1 else -1)))) (kg_bk (kg_it (kg_as σ) m cl x y w (kg_qL (kg_as σ) m cl x y w 1000 0 0).1)) τ z) (hN : (kf_isOp x y = 0 ∨ kf_within w 80 110 = 0) → Q (.inl (some (.int (0)))) (kn_up σ 128 4 1) τ z) : kn_Ev X MX7_quietAfter [.ref 128, .int x, .int y, .int w] σ τ z c n Q := by
  refine kn_entry (by decide +kernel) rfl (Nat.le_of_ble_eq_true rfl) ?_
  show kn_Go X MX7_quietAfter 0 [(0, .ref 128), (1, .int x), (2, .int y), (3, .int w)] [] _ _ _ _ _ _
  have cut88 : ∀ (j : Nat) (q : Int32) (s9 : kn_S), s9 129 8 = nI m → Q (.inl (some (.int (if q = 5 * nI m then nI j else -1)))) (kg_bk s9) τ z → kn_Go X MX7_quietAfter 88 [(5, .int q), (4, .int (nI j)), (0, .ref 128)] [] s9 τ z c n Q := by
    intro j q s9 h8 hQ
    refine k_iload dX7_quietAfter_88 rfl ?_
    refine k_iconst (5) dX7_quietAfter_90 (by decide) ?_
    refine k_aload_n 0 dX7_quietAfter_91 rfl rfl ?_
    refine k_getfield dX7_quietAfter_92 hc_X7 hM.1.1 hM.1.2 0 (by decide) wF_X7_7 rfl ?_
    refine k_bipush (8) dX7_quietAfter_95 (by decide) ?_
    refine k_ialoadV (8) dX7_quietAfter_97 hM.2.1.1 hM.2.1.2 (rfl) (⟨by omega, by decide⟩) (h8) ?_
    refine k_imul dX7_quietAfter_98 ?_
    refine k_icmpne 106 dX7_quietAfter_99 (by decide) (fun h99 => ?_) (fun h99 => ?_)
    · refine k_iconst (0) dX7_quietAfter_106 (by decide) ?_
      refine k_istore (lv' := [(6, _), (5, _), (4, _), (0, _)]) dX7_quietAfter_107 (by decide) rfl ?_
      refine k_aload_n 0 dX7_quietAfter_109 rfl rfl ?_
      refine k_invV (As := []) dX7_quietAfter_110 mm_X7_takesBack wL_X7_139 ⟨by decide, by decide⟩ hM.1.1 hM.1.2 rfl rfl (Nat.le_of_ble_eq_true rfl) (Nat.zero_le _) (Nat.zero_le _) (m_X7_takesBack hM ⟨rfl, ?_⟩)
      refine k_iload dX7_quietAfter_113 rfl ?_
      refine k_ifeq 123 dX7_quietAfter_115 (by decide) (fun h115 => ?_) (fun h115 => ?_)
      · refine k_iconst (-1) dX7_quietAfter_123 (by decide) ?_
        refine k_iret dX7_quietAfter_124 rfl (rfl) ?_
        rw [if_neg h99] at hQ
        exact hQ
      · exact absurd rfl h115
    · refine k_iconst (1) dX7_quietAfter_102 (by decide) ?_
      refine k_goto 107 dX7_quietAfter_103 (by decide) ?_
      refine k_istore (lv' := [(6, _), (5, _), (4, _), (0, _)]) dX7_quietAfter_107 (by decide) rfl ?_
      refine k_aload_n 0 dX7_quietAfter_109 rfl rfl ?_
      refine k_invV (As := []) dX7_quietAfter_110 mm_X7_takesBack wL_X7_139 ⟨by decide, by decide⟩ hM.1.1 hM.1.2 rfl rfl (Nat.le_of_ble_eq_true rfl) (Nat.zero_le _) (Nat.zero_le _) (m_X7_takesBack hM ⟨rfl, ?_⟩)
      refine k_iload dX7_quietAfter_113 rfl ?_
      refine k_ifeq 123 dX7_quietAfter_115 (by decide) (fun h115 => ?_) (fun h115 => ?_)
      · exact absurd h115 (by decide)
      · refine k_iload dX7_quietAfter_118 rfl ?_
        refine k_goto 124 dX7_quietAfter_120 (by decide) ?_
        refine k_iret dX7_quietAfter_124 rfl (rfl) ?_
        rw [if_pos h99] at hQ
        exact hQ
  have lp39 : ∀ r9 : Nat, ∀ (j : Nat) (q : Int32), j + r9 = 1000 → (kf_cell x y = nI cl ∧ cl < 24) → ((∀ j, j < 1000 → kg_fp (kg_it (kg_as σ) m cl x y w j) m cl x y w) ∧ (∀ j, j ≤ 1000 → (kg_it (kg_as σ) m cl x y w j) 129 8 = nI m)) → Q (.inl (some (.int (if (kg_qL (kg_as σ) m cl x y w r9 j q).2 = 5 * nI m then nI (kg_qL (kg_as σ) m cl x y w r9 j q).1 else -1)))) (kg_bk (kg_it (kg_as σ) m cl x y w (kg_qL (kg_as σ) m cl x y w r9 j q).1)) τ z → kn_Go X MX7_quietAfter 39 [(5, .int q), (4, .int (nI j)), (0, .ref 128), (1, .int x), (2, .int y), (3, .int w)] [] (kg_it (kg_as σ) m cl x y w j) τ z c n Q := by
    intro r9
    induction r9 with
    | zero =>
      intro j q hj hc hF hQ
      refine k_iload dX7_quietAfter_39 rfl ?_
      refine k_iconst (5) dX7_quietAfter_41 (by decide) ?_
      refine k_aload_n 0 dX7_quietAfter_42 rfl rfl ?_
      refine k_getfield dX7_quietAfter_43 hc_X7 hM.1.1 hM.1.2 0 (by decide) wF_X7_7 rfl ?_
      refine k_bipush (8) dX7_quietAfter_46 (by decide) ?_
      refine k_ialoadV (8) dX7_quietAfter_48 hM.2.1.1 hM.2.1.2 (rfl) (⟨by omega, by decide⟩) (hF.2 j (by omega)) ?_
      refine k_imul dX7_quietAfter_49 ?_
      refine k_icmpge 88 dX7_quietAfter_50 (by decide) (fun h50 => ?_) (fun h50 => ?_)
      · refine k_re [5, 4, 0] (lv' := [(5, _), (4, _), (0, _)]) rfl ?_
        first
          | exact cut88 j q _ (hF.2 j (by omega)) hQ
          | (rw [kg_qL, if_pos h50] at hQ; exact cut88 j q _ (hF.2 j (by omega)) hQ)
      · refine k_iload dX7_quietAfter_53 rfl ?_
        refine k_sipush (1000) dX7_quietAfter_55 (by decide) ?_
        refine k_icmpge 88 dX7_quietAfter_58 (by decide) (fun h58 => ?_) (fun h58 => ?_)
        · refine k_re [5, 4, 0] (lv' := [(5, _), (4, _), (0, _)]) rfl ?_
          first
            | exact cut88 j q _ (hF.2 j (by omega)) hQ
            | (rw [kg_qL, if_pos h50] at hQ; exact cut88 j q _ (hF.2 j (by omega)) hQ)
        · exact absurd (show nI 1000 ≤ nI j from nI_le (by omega) (by omega)) h58
    | succ r9 ih =>
      intro j q hj hc hF hQ
      refine k_iload dX7_quietAfter_39 rfl ?_
      refine k_iconst (5) dX7_quietAfter_41 (by decide) ?_
      refine k_aload_n 0 dX7_quietAfter_42 rfl rfl ?_
      refine k_getfield dX7_quietAfter_43 hc_X7 hM.1.1 hM.1.2 0 (by decide) wF_X7_7 rfl ?_
      refine k_bipush (8) dX7_quietAfter_46 (by decide) ?_
      refine k_ialoadV (8) dX7_quietAfter_48 hM.2.1.1 hM.2.1.2 (rfl) (⟨by omega, by decide⟩) (hF.2 j (by omega)) ?_
      refine k_imul dX7_quietAfter_49 ?_
      refine k_icmpge 88 dX7_quietAfter_50 (by decide) (fun h50 => ?_) (fun h50 => ?_)
      · refine k_re [5, 4, 0] (lv' := [(5, _), (4, _), (0, _)]) rfl ?_
        first
          | exact cut88 j q _ (hF.2 j (by omega)) hQ
          | (rw [kg_qL, if_pos h50] at hQ; exact cut88 j q _ (hF.2 j (by omega)) hQ)
      · refine k_iload dX7_quietAfter_53 rfl ?_
        refine k_sipush (1000) dX7_quietAfter_55 (by decide) ?_
        refine k_icmpge 88 dX7_quietAfter_58 (by decide) (fun h58 => ?_) (fun h58 => ?_)
        · exact absurd h58 (nI_ge (b := 1000) (by omega) (by decide))
        · refine k_aload_n 0 dX7_quietAfter_61 rfl rfl ?_
          refine k_iload_n 1 dX7_quietAfter_62 rfl rfl ?_
          refine k_iload_n 2 dX7_quietAfter_63 rfl rfl ?_
          refine k_iload_n 3 dX7_quietAfter_64 rfl rfl ?_
          refine k_invV (As := [_, _, _]) dX7_quietAfter_65 mm_X7_fires wL_X7_117 ⟨by decide, by decide⟩ hM.1.1 hM.1.2 rfl rfl (Nat.le_of_ble_eq_true rfl) (Nat.zero_le _) (Nat.zero_le _) (m_X7_fires (m := m) (cl := cl) hM (hF.1 j (by omega)) hc.1 hc.2 ⟨rfl, ?_⟩)
          refine k_iconst (1) dX7_quietAfter_68 (by decide) ?_
          refine k_icmpne 76 dX7_quietAfter_69 (by decide) (fun h69 => ?_) (fun h69 => ?_)
          · refine k_iload dX7_quietAfter_76 rfl ?_
            refine k_iconst (1) dX7_quietAfter_78 (by decide) ?_
            refine k_iadd dX7_quietAfter_79 ?_
            refine k_istore (lv' := [(5, _), (4, _), (0, _), (1, _), (2, _), (3, _)]) dX7_quietAfter_80 (by decide) rfl ?_
            refine k_iinc (nI (j + 1)) (lv' := [(4, _), (5, _), (0, _), (1, _), (2, _), (3, _)]) dX7_quietAfter_82 rfl (kn_inc j) (by decide) rfl ?_
            refine k_goto 39 dX7_quietAfter_85 (by decide) ?_
            refine k_re [5, 4, 0, 1, 2, 3] (lv' := [(5, _), (4, _), (0, _), (1, _), (2, _), (3, _)]) rfl ?_
            rw [kg_qL, if_neg h50, if_neg h69] at hQ
            exact ih (j + 1) _ (by omega) hc hF hQ
          · refine k_iconst (0) dX7_quietAfter_72 (by decide) ?_
            refine k_goto 80 dX7_quietAfter_73 (by decide) ?_
            refine k_istore (lv' := [(5, _), (4, _), (0, _), (1, _), (2, _), (3, _)]) dX7_quietAfter_80 (by decide) rfl ?_
            refine k_iinc (nI (j + 1)) (lv' := [(4, _), (5, _), (0, _), (1, _), (2, _), (3, _)]) dX7_quietAfter_82 rfl (kn_inc j) (by decide) rfl ?_
            refine k_goto 39 dX7_quietAfter_85 (by decide) ?_
            refine k_re [5, 4, 0, 1, 2, 3] (lv' := [(5, _), (4, _), (0, _), (1, _), (2, _), (3, _)]) rfl ?_
            rw [kg_qL, if_neg h50, if_pos h69] at hQ
            exact ih (j + 1) _ (by omega) hc hF hQ
  refine k_aload_n 0 dX7_quietAfter_0 rfl rfl ?_
  refine k_iload_n 1 dX7_quietAfter_1 rfl rfl ?_
  refine k_iload_n 2 dX7_quietAfter_2 rfl rfl ?_
  refine k_invS (As := [_, _]) dX7_quietAfter_3 mm_X7_isPoint wL_X7_111 ⟨by decide, by decide⟩ rfl rfl (Nat.le_of_ble_eq_true rfl) (Nat.zero_le _) (Nat.zero_le _) (m_X7_isPoint ⟨rfl, ?_⟩)
  refine k_ifeq 20 dX7_quietAfter_6 (by decide) (fun h6 => ?_) (fun h6 => ?_)
  · refine k_iconst (1) dX7_quietAfter_20 (by decide) ?_
    refine k_invV (As := [_]) dX7_quietAfter_21 mm_X7_refused wL_X7_34 ⟨by decide, by decide⟩ hM.1.1 hM.1.2 rfl rfl (Nat.le_of_ble_eq_true rfl) (Nat.zero_le _) (Nat.zero_le _) (m_X7_refused (r := 1) hM rfl ⟨rfl, ?_⟩)
    refine k_ifeq 29 dX7_quietAfter_24 (by decide) (fun h24 => ?_) (fun h24 => ?_)
    · exact absurd h24 (by decide)
    · refine k_iconst (0) dX7_quietAfter_27 (by decide) ?_
      refine k_iret dX7_quietAfter_28 rfl (rfl) ?_
      first
        | exact hN (Or.inl (by assumption))
        | exact hN (Or.inr (by assumption))
  · refine k_iload_n 3 dX7_quietAfter_9 rfl rfl ?_
    refine k_invS (As := [_]) dX7_quietAfter_10 mm_X7_isOctane wL_X7_114 ⟨by decide, by decide⟩ rfl rfl (Nat.le_of_ble_eq_true rfl) (Nat.zero_le _) (Nat.zero_le _) (m_X7_isOctane ⟨rfl, ?_⟩)
    refine k_ifeq 20 dX7_quietAfter_13 (by decide) (fun h13 => ?_) (fun h13 => ?_)
    · refine k_iconst (1) dX7_quietAfter_20 (by decide) ?_
      refine k_invV (As := [_]) dX7_quietAfter_21 mm_X7_refused wL_X7_34 ⟨by decide, by decide⟩ hM.1.1 hM.1.2 rfl rfl (Nat.le_of_ble_eq_true rfl) (Nat.zero_le _) (Nat.zero_le _) (m_X7_refused (r := 1) hM rfl ⟨rfl, ?_⟩)
      refine k_ifeq 29 dX7_quietAfter_24 (by decide) (fun h24 => ?_) (fun h24 => ?_)
      · exact absurd h24 (by decide)
      · refine k_iconst (0) dX7_quietAfter_27 (by decide) ?_
        refine k_iret dX7_quietAfter_28 rfl (rfl) ?_
        first
          | exact hN (Or.inl (by assumption))
          | exact hN (Or.inr (by assumption))
    · refine k_iconst (0) dX7_quietAfter_16 (by decide) ?_
      refine k_goto 21 dX7_quietAfter_17 (by decide) ?_
      refine k_invV (As := [_]) dX7_quietAfter_21 mm_X7_refused wL_X7_34 ⟨by decide, by decide⟩ hM.1.1 hM.1.2 rfl rfl (Nat.le_of_ble_eq_true rfl) (Nat.zero_le _) (Nat.zero_le _) (m_X7_refused (r := 0) hM rfl ⟨rfl, ?_⟩)
      refine k_ifeq 29 dX7_quietAfter_24 (by decide) (fun h24 => ?_) (fun h24 => ?_)
      · refine k_aload_n 0 dX7_quietAfter_29 rfl rfl ?_
        refine k_invV (As := []) dX7_quietAfter_30 mm_X7_laysAside wL_X7_136 ⟨by decide, by decide⟩ hM.1.1 hM.1.2 rfl rfl (Nat.le_of_ble_eq_true rfl) (Nat.zero_le _) (Nat.zero_le _) (m_X7_laysAside hM ⟨rfl, ?_⟩)
        refine k_iconst (0) dX7_quietAfter_33 (by decide) ?_
        refine k_istore (lv' := [(4, _), (0, _), (1, _), (2, _), (3, _)]) dX7_quietAfter_34 (by decide) rfl ?_
        refine k_iconst (0) dX7_quietAfter_36 (by decide) ?_
        refine k_istore (lv' := [(5, _), (4, _), (0, _), (1, _), (2, _), (3, _)]) dX7_quietAfter_37 (by decide) rfl ?_
        exact lp39 1000 0 0 (by omega) (hce h6) (hF h6 h13) (hQ h6 h13)
      · exact absurd rfl h24

set_option maxRecDepth 100000 in
set_option maxHeartbeats 4000000 in
theorem m_X7_digest {X : kn_X} {σ : kn_S} {τ : kn_T} {z : kn_Z} {c n : Nat} {Q : kn_Q} {m lc fi : Nat} {F9 : (Int32 → Int32) → Int64 → Nat → Int64} {N9 : Int64 → Nat → Int64} (hM : kn_isM z) (hm8 : σ 129 8 = nI m) (hm : 1 ≤ m ∧ m ≤ 8) (hfi31 : fi < 2 ^ 31) (hfi : σ 129 9 = nI fi) (hlc : σ 129 73 = nI lc) (hlc60 : lc ≤ 60) (F0 : ∀ f h, F9 f h 0 = h) (Fs : ∀ f h j, F9 f h (j + 1) = 31 * F9 f h j + (f (nI j)).toInt64) (N0 : ∀ h, N9 h 0 = h) (Ns : ∀ h j, N9 h (j + 1) = F9 (kg_tell (kn_up σ 128 4 0) j) (N9 h j) 5) (hQ : Q (.inl (some (.long (kg_dgS N9 (kn_up σ 128 4 0) m fi lc)))) (kn_up σ 128 4 0) (kn_upT τ 128 12 (kg_dgS N9 (kn_up σ 128 4 0) m fi lc)) z) : kn_Ev X MX7_digest [.ref 128] σ τ z c n Q := by
  refine kn_entry (by decide +kernel) rfl (Nat.le_of_ble_eq_true rfl) ?_
  show kn_Go X MX7_digest 0 [(0, .ref 128)] [] _ _ _ _ _ _
  have lp101 : ∀ r9 : Nat, ∀ (j i : Nat) (h : Int64), j + r9 = 5 → i < 8 → kn_Go X MX7_digest 122 [(1, .int (nI i)), (0, .ref 128)] [] (kn_up σ 128 4 0) (kn_upT τ 128 12 (F9 (kg_tell (kn_up σ 128 4 0) i) h 5)) z c n Q → kn_Go X MX7_digest 101 [(2, .int (nI j)), (1, .int (nI i)), (0, .ref 128)] [] (kn_up σ 128 4 0) (kn_upT τ 128 12 (F9 (kg_tell (kn_up σ 128 4 0) i) h j)) z c n Q := by
    intro r9
    induction r9 with
    | zero =>
      intro j i h hj hi hk
      obtain rfl : j = 5 := by omega
      refine k_iload_n 2 dX7_digest_101 rfl rfl ?_
      refine k_iconst (5) dX7_digest_102 (by decide) ?_
      refine k_icmpge 122 dX7_digest_103 (by decide) (fun h103 => ?_) (fun h103 => ?_)
      · refine k_re [1, 0] (lv' := [(1, _), (0, _)]) rfl ?_
        exact hk
      · exact absurd (nI_le (Nat.le_refl 5) (by decide)) h103
    | succ r9 ih =>
      intro j i h hj hi hk
      refine k_iload_n 2 dX7_digest_101 rfl rfl ?_
      refine k_iconst (5) dX7_digest_102 (by decide) ?_
      refine k_icmpge 122 dX7_digest_103 (by decide) (fun h103 => ?_) (fun h103 => ?_)
      · exact absurd h103 (nI_ge (b := 5) (by omega) (by decide))
      · refine k_aload_n 0 dX7_digest_106 rfl rfl ?_
        refine k_aload_n 0 dX7_digest_107 rfl rfl ?_
        refine k_iload_n 1 dX7_digest_108 rfl rfl ?_
        refine k_iload_n 2 dX7_digest_109 rfl rfl ?_
        refine k_invV (As := [_, _]) dX7_digest_110 mm_X7_tellCylinder wL_X7_123 ⟨by decide, by decide⟩ hM.1.1 hM.1.2 rfl rfl (Nat.le_of_ble_eq_true rfl) (Nat.zero_le _) (Nat.zero_le _) (m_X7_tellCylinder (cc := i) hM (by omega) ⟨rfl, ?_⟩)
        refine k_invV (As := [_]) dX7_digest_113 mm_X7_mix wL_X7_176 ⟨by decide, by decide⟩ hM.1.1 hM.1.2 rfl rfl (Nat.le_of_ble_eq_true rfl) (Nat.zero_le _) (Nat.zero_le _) (m_X7_mix hM ⟨rfl, ?_⟩)
        refine k_iinc (nI (j + 1)) (lv' := [(2, _), (1, _), (0, _)]) dX7_digest_116 rfl (kn_inc j) (by decide) rfl ?_
        refine k_goto 101 dX7_digest_119 (by decide) ?_
        have h9 := ih (j + 1) i h (by omega) hi hk
        rw [Fs] at h9
        exact h9
  have lp88 : ∀ r9 : Nat, ∀ (j : Nat) (h : Int64), j + r9 = m → Q (.inl (some (.long (31 * kg_hA ((kn_up σ 128 4 0) 129) 73 (kg_hA ((kn_up σ 128 4 0) 129) 49 (N9 h m) 24) (1 + 3 * lc) + ((kn_up σ 128 4 0) 128 3).toInt64)))) (kn_up σ 128 4 0) (kn_upT τ 128 12 (31 * kg_hA ((kn_up σ 128 4 0) 129) 73 (kg_hA ((kn_up σ 128 4 0) 129) 49 (N9 h m) 24) (1 + 3 * lc) + ((kn_up σ 128 4 0) 128 3).toInt64)) z → kn_Go X MX7_digest 88 [(1, .int (nI j)), (0, .ref 128)] [] (kn_up σ 128 4 0) (kn_upT τ 128 12 (N9 h j)) z c n Q := by
    intro r9
    induction r9 with
    | zero =>
      intro j h hj hQ
      obtain rfl : j = m := by omega
      refine k_iload_n 1 dX7_digest_88 rfl rfl ?_
      refine k_aload_n 0 dX7_digest_89 rfl rfl ?_
      refine k_getfield dX7_digest_90 hc_X7 hM.1.1 hM.1.2 0 (by decide) wF_X7_7 rfl ?_
      refine k_bipush (8) dX7_digest_93 (by decide) ?_
      refine k_ialoadV (8) dX7_digest_95 hM.2.1.1 hM.2.1.2 (rfl) (⟨by omega, by decide⟩) (hm8) ?_
      refine k_icmpge 128 dX7_digest_96 (by decide) (fun h96 => ?_) (fun h96 => ?_)
      · refine k_aload_n 0 dX7_digest_128 rfl rfl ?_
        refine k_bipush (49) dX7_digest_129 (by decide) ?_
        refine k_bipush (24) dX7_digest_131 (by decide) ?_
        refine k_invV (As := [_, _]) dX7_digest_133 mm_X7_mixAll wL_X7_181 ⟨by decide, by decide⟩ hM.1.1 hM.1.2 rfl rfl (Nat.le_of_ble_eq_true rfl) (Nat.zero_le _) (Nat.zero_le _) (m_X7_mixAll (a := 49) (k := 24) hM (by decide) ⟨rfl, ?_⟩)
        refine k_aload_n 0 dX7_digest_136 rfl rfl ?_
        refine k_bipush (73) dX7_digest_137 (by decide) ?_
        refine k_iconst (1) dX7_digest_139 (by decide) ?_
        refine k_iconst (3) dX7_digest_140 (by decide) ?_
        refine k_aload_n 0 dX7_digest_141 rfl rfl ?_
        refine k_getfield dX7_digest_142 hc_X7 hM.1.1 hM.1.2 0 (by decide) wF_X7_7 rfl ?_
        refine k_bipush (73) dX7_digest_145 (by decide) ?_
        refine k_ialoadV (73) dX7_digest_147 hM.2.1.1 hM.2.1.2 (rfl) (⟨by omega, by decide⟩) (hlc) ?_
        refine k_imul dX7_digest_148 ?_
        refine k_iadd dX7_digest_149 ?_
        rw [show (1 : Int32) + 3 * nI lc = nI (1 + 3 * lc) from kg_add (a := 1) rfl (kg_mul (a := 3) rfl rfl)]
        refine k_invV (As := [_, _]) dX7_digest_150 mm_X7_mixAll wL_X7_181 ⟨by decide, by decide⟩ hM.1.1 hM.1.2 rfl rfl (Nat.le_of_ble_eq_true rfl) (Nat.zero_le _) (Nat.zero_le _) (m_X7_mixAll (a := 73) (k := 1 + 3 * lc) hM (by omega) ⟨rfl, ?_⟩)
        refine k_aload_n 0 dX7_digest_153 rfl rfl ?_
        refine k_aload_n 0 dX7_digest_154 rfl rfl ?_
        refine k_getfield dX7_digest_155 hc_X7 hM.1.1 hM.1.2 3 (by decide) wF_X7_31 rfl ?_
        refine k_invV (As := [_]) dX7_digest_158 mm_X7_mix wL_X7_176 ⟨by decide, by decide⟩ hM.1.1 hM.1.2 rfl rfl (Nat.le_of_ble_eq_true rfl) (Nat.zero_le _) (Nat.zero_le _) (m_X7_mix hM ⟨rfl, ?_⟩)
        refine k_aload_n 0 dX7_digest_161 rfl rfl ?_
        refine k_getfield dX7_digest_162 hc_X7 hM.1.1 hM.1.2 12 (by decide) wF_X7_172 rfl ?_
        refine k_lret dX7_digest_165 rfl ?_
        exact hQ
      · exact absurd (nI_le (Nat.le_refl _) (by omega)) h96
    | succ r9 ih =>
      intro j h hj hQ
      refine k_iload_n 1 dX7_digest_88 rfl rfl ?_
      refine k_aload_n 0 dX7_digest_89 rfl rfl ?_
      refine k_getfield dX7_digest_90 hc_X7 hM.1.1 hM.1.2 0 (by decide) wF_X7_7 rfl ?_
      refine k_bipush (8) dX7_digest_93 (by decide) ?_
      refine k_ialoadV (8) dX7_digest_95 hM.2.1.1 hM.2.1.2 (rfl) (⟨by omega, by decide⟩) (hm8) ?_
      refine k_icmpge 128 dX7_digest_96 (by decide) (fun h96 => ?_) (fun h96 => ?_)
      · exact absurd h96 (nI_ge (by omega) (by omega))
      · refine k_iconst (0) dX7_digest_99 (by decide) ?_
        refine k_istore_n 2 (lv' := [(2, _), (1, _), (0, _)]) dX7_digest_100 rfl (by decide) rfl ?_
        have h9 := lp101 5 0 j (N9 h j) (by omega) (by omega)
        rw [F0] at h9
        refine h9 ?_
        refine k_iinc (nI (j + 1)) (lv' := [(1, _), (0, _)]) dX7_digest_122 rfl (kn_inc j) (by decide) rfl ?_
        refine k_goto 88 dX7_digest_125 (by decide) ?_
        have h9 := ih (j + 1) h (by omega) hQ
        rw [Ns] at h9
        exact h9
  refine k_aload_n 0 dX7_digest_0 rfl rfl ?_
  refine k_iconst (0) dX7_digest_1 (by decide) ?_
  refine k_putfield dX7_digest_2 hc_X7 hM.1.1 hM.1.2 4 (by decide) wF_X7_27 rfl rfl (t9 := .int) (by decide +kernel) rfl rfl ?_
  refine k_aload_n 0 dX7_digest_5 rfl rfl ?_
  refine k_ldc2 dX7_digest_6 wK_X7_179 ?_
  refine k_putfieldJ dX7_digest_9 hc_X7 hM.1.1 hM.1.2 12 (by decide) wF_X7_172 rfl rfl rfl ?_
  refine k_aload_n 0 dX7_digest_12 rfl rfl ?_
  refine k_aload_n 0 dX7_digest_13 rfl rfl ?_
  refine k_getfield dX7_digest_14 hc_X7 hM.1.1 hM.1.2 6 (by decide) wF_X7_142 rfl ?_
  refine k_invV (As := [_]) dX7_digest_17 mm_X7_mix wL_X7_176 ⟨by decide, by decide⟩ hM.1.1 hM.1.2 rfl rfl (Nat.le_of_ble_eq_true rfl) (Nat.zero_le _) (Nat.zero_le _) (m_X7_mix hM ⟨rfl, ?_⟩)
  refine k_aload_n 0 dX7_digest_20 rfl rfl ?_
  refine k_iconst (0) dX7_digest_21 (by decide) ?_
  refine k_bipush (9) dX7_digest_22 (by decide) ?_
  refine k_invV (As := [_, _]) dX7_digest_24 mm_X7_mixAll wL_X7_181 ⟨by decide, by decide⟩ hM.1.1 hM.1.2 rfl rfl (Nat.le_of_ble_eq_true rfl) (Nat.zero_le _) (Nat.zero_le _) (m_X7_mixAll (a := 0) (k := 9) hM (by decide) ⟨rfl, ?_⟩)
  refine k_aload_n 0 dX7_digest_27 rfl rfl ?_
  refine k_aload_n 0 dX7_digest_28 rfl rfl ?_
  refine k_getfield dX7_digest_29 hc_X7 hM.1.1 hM.1.2 0 (by decide) wF_X7_7 rfl ?_
  refine k_bipush (9) dX7_digest_32 (by decide) ?_
  refine k_ialoadN (9) dX7_digest_34 hM.2.1.1 hM.2.1.2 (rfl) (⟨by omega, by decide⟩) ?_
  refine k_invV (As := [_]) dX7_digest_35 mm_X7_mix wL_X7_176 ⟨by decide, by decide⟩ hM.1.1 hM.1.2 rfl rfl (Nat.le_of_ble_eq_true rfl) (Nat.zero_le _) (Nat.zero_le _) (m_X7_mix hM ⟨rfl, ?_⟩)
  refine k_aload_n 0 dX7_digest_38 rfl rfl ?_
  refine k_aload_n 0 dX7_digest_39 rfl rfl ?_
  refine k_getfield dX7_digest_40 hc_X7 hM.1.1 hM.1.2 0 (by decide) wF_X7_7 rfl ?_
  refine k_bipush (9) dX7_digest_43 (by decide) ?_
  refine k_ialoadV (9) dX7_digest_45 hM.2.1.1 hM.2.1.2 (rfl) (⟨by omega, by decide⟩) (hfi) ?_
  refine k_aload_n 0 dX7_digest_46 rfl rfl ?_
  refine k_getfield dX7_digest_47 hc_X7 hM.1.1 hM.1.2 0 (by decide) wF_X7_7 rfl ?_
  refine k_bipush (8) dX7_digest_50 (by decide) ?_
  refine k_ialoadV (8) dX7_digest_52 hM.2.1.1 hM.2.1.2 (rfl) (⟨by omega, by decide⟩) (hm8) ?_
  refine k_irem dX7_digest_53 (nI_ne0 (by omega) (by omega)) ?_
  rw [kg_rem hfi31 hm]
  refine k_invV (As := [_]) dX7_digest_54 mm_X7_mix wL_X7_176 ⟨by decide, by decide⟩ hM.1.1 hM.1.2 rfl rfl (Nat.le_of_ble_eq_true rfl) (Nat.zero_le _) (Nat.zero_le _) (m_X7_mix hM ⟨rfl, ?_⟩)
  refine k_aload_n 0 dX7_digest_57 rfl rfl ?_
  refine k_aload_n 0 dX7_digest_58 rfl rfl ?_
  refine k_getfield dX7_digest_59 hc_X7 hM.1.1 hM.1.2 0 (by decide) wF_X7_7 rfl ?_
  refine k_bipush (10) dX7_digest_62 (by decide) ?_
  refine k_ialoadN (10) dX7_digest_64 hM.2.1.1 hM.2.1.2 (rfl) (⟨by omega, by decide⟩) ?_
  refine k_invV (As := [_]) dX7_digest_65 mm_X7_mix wL_X7_176 ⟨by decide, by decide⟩ hM.1.1 hM.1.2 rfl rfl (Nat.le_of_ble_eq_true rfl) (Nat.zero_le _) (Nat.zero_le _) (m_X7_mix hM ⟨rfl, ?_⟩)
  refine k_aload_n 0 dX7_digest_68 rfl rfl ?_
  refine k_aload_n 0 dX7_digest_69 rfl rfl ?_
  refine k_getfield dX7_digest_70 hc_X7 hM.1.1 hM.1.2 0 (by decide) wF_X7_7 rfl ?_
  refine k_bipush (11) dX7_digest_73 (by decide) ?_
  refine k_ialoadN (11) dX7_digest_75 hM.2.1.1 hM.2.1.2 (rfl) (⟨by omega, by decide⟩) ?_
  refine k_invV (As := [_]) dX7_digest_76 mm_X7_mix wL_X7_176 ⟨by decide, by decide⟩ hM.1.1 hM.1.2 rfl rfl (Nat.le_of_ble_eq_true rfl) (Nat.zero_le _) (Nat.zero_le _) (m_X7_mix hM ⟨rfl, ?_⟩)
  refine k_aload_n 0 dX7_digest_79 rfl rfl ?_
  refine k_bipush (12) dX7_digest_80 (by decide) ?_
  refine k_iconst (5) dX7_digest_82 (by decide) ?_
  refine k_invV (As := [_, _]) dX7_digest_83 mm_X7_mixAll wL_X7_181 ⟨by decide, by decide⟩ hM.1.1 hM.1.2 rfl rfl (Nat.le_of_ble_eq_true rfl) (Nat.zero_le _) (Nat.zero_le _) (m_X7_mixAll (a := 12) (k := 5) hM (by decide) ⟨rfl, ?_⟩)
  refine k_iconst (0) dX7_digest_86 (by decide) ?_
  refine k_istore_n 1 (lv' := [(1, _), (0, _)]) dX7_digest_87 rfl (by decide) rfl ?_
  rw [kg_dgS] at hQ
  have h9 := lp88 m 0 _ (by omega) hQ
  rw [N0] at h9
  exact h9
