-- State's constructor: the settings
def kf_ini (X : kn_X) (s : kn_S) (b : Nat) : Nat → kn_S
  | 0 => s
  | j + 1 => kf_put (kf_ini X s b j) (b + 1 + 1) 8 (nI j) (kn_rv X 2 (nI j).toNatClampNeg)
set_option maxRecDepth 100000 in
set_option maxHeartbeats 4000000 in
theorem m_X5_tail {X : kn_X} {σ : kn_S} {τ : kn_T} {z : kn_Z} {c n : Nat} {Q : kn_Q} {b : Nat} (hs : kn_isSt z b) (hQ : Q (.inl none) (kf_restart (kn_up (kn_up (kf_ini X σ b 8) b 15 1) b 16 0) b 4) τ z) : kn_Go X MX5_init 93 [(0, .ref b)] [] σ τ z c n Q := by
  have lp95 : ∀ r9 : Nat, ∀ j : Nat, j + r9 = 8 → Q (.inl none) (kf_restart (kn_up (kn_up (kf_ini X σ b 8) b 15 1) b 16 0) b 4) τ z → kn_Go X MX5_init 95 [(1, .int (nI j)), (0, .ref b)] [] (kf_ini X σ b j) τ z c n Q := by
    intro r9
    induction r9 with
    | zero =>
      intro j hj hQ
      obtain rfl : j = 8 := by omega
      refine k_iload_n 1 dX5_init_95 rfl rfl ?_
      refine k_getstaticN dX5_init_96 wNF_X5_42 ?_
      refine k_rolen dX5_init_99 (by decide) ?_
      refine k_icmpge 122 dX5_init_100 (by decide) (fun h100 => ?_) (fun h100 => ?_)
      · refine k_aload_n 0 dX5_init_122 rfl rfl ?_
        refine k_iconst (1) dX5_init_123 (by decide) ?_
        refine k_putfield dX5_init_124 hc_X5 hs.1.1 hs.1.2 15 (by decide) wF_X5_50 rfl rfl (t9 := .int) (by decide +kernel) rfl rfl ?_
        refine k_aload_n 0 dX5_init_127 rfl rfl ?_
        refine k_iconst (0) dX5_init_128 (by decide) ?_
        refine k_putfield dX5_init_129 hc_X5 hs.1.1 hs.1.2 16 (by decide) wF_X5_54 rfl rfl (t9 := .boolean) (by decide +kernel) (rfl) (rfl) ?_
        refine k_aload_n 0 dX5_init_132 rfl rfl ?_
        refine k_iconst (4) dX5_init_133 (by decide) ?_
        refine k_invV (As := [_]) dX5_init_134 mm_X5_restart wL_X5_58 ⟨by decide, by decide⟩ hs.1.1 hs.1.2 rfl rfl (Nat.le_of_ble_eq_true rfl) (Nat.zero_le _) (Nat.zero_le _) (m_X5_restart hs ⟨rfl, ?_⟩)
        refine k_vret dX5_init_137 rfl ?_
        exact hQ
      · exact absurd (show nI 8 ≤ nI 8 from nI_le (Nat.le_refl _) (by decide)) h100
    | succ r9 ih =>
      intro j hj hQ
      refine k_iload_n 1 dX5_init_95 rfl rfl ?_
      refine k_getstaticN dX5_init_96 wNF_X5_42 ?_
      refine k_rolen dX5_init_99 (by decide) ?_
      refine k_icmpge 122 dX5_init_100 (by decide) (fun h100 => ?_) (fun h100 => ?_)
      · exact absurd h100 (show ¬ nI 8 ≤ nI j from nI_ge (by omega) (by decide))
      · refine k_aload_n 0 dX5_init_103 rfl rfl ?_
        refine k_getfield dX5_init_104 hc_X5 hs.1.1 hs.1.2 0 (by decide) wF_X5_14 rfl ?_
        refine k_iload_n 1 dX5_init_107 rfl rfl ?_
        refine k_getstaticN dX5_init_108 wNF_X5_42 ?_
        refine k_iload_n 1 dX5_init_111 rfl rfl ?_
        refine k_roload dX5_init_112 (by decide) (vp_in_nI (n := j) (show j < 8 by omega) (show 8 < 2 ^ 31 by decide)) ?_
        refine k_invV (As := [_, _]) dX5_init_113 mm_X4_put wL_X5_46 ⟨by decide, by decide⟩ hs.2.1.1.1 hs.2.1.1.2 rfl rfl (Nat.le_of_ble_eq_true rfl) (Nat.zero_le _) (Nat.zero_le _) (m_X4_put hs.2.1 (Nat.le_of_ble_eq_true rfl) ⟨rfl, ?_⟩)
        refine k_iinc (nI (j + 1)) (lv' := [(1, _), (0, _)]) dX5_init_116 rfl (kn_inc j) (by decide) rfl ?_
        refine k_goto 95 dX5_init_119 (by decide) ?_
        exact ih (j + 1) (by omega) hQ
  refine k_iconst (0) dX5_init_93 (by decide) ?_
  refine k_istore_n 1 (lv' := [(1, _), (0, _)]) dX5_init_94 rfl (by decide) rfl ?_
  exact lp95 8 0 (by omega) hQ

