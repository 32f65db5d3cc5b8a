-- constructors
theorem kn_max0 {L : Nat} (h : L < 2 ^ 31) : kf_max (nI L) 0 = nI L := if_neg (nI_pos h)
set_option maxRecDepth 100000 in
set_option maxHeartbeats 4000000 in
theorem m_X4_init {X : kn_X} {σ : kn_S} {τ : kn_T} {z : kn_Z} {c n : Nat} {Q : kn_Q} {i L : Nat} (hi : i < z.1) (hz : z.2 i = .inl (3, [some .null])) (hL : L ≤ 1016) (hQ : Q (.inl none) (kn_zS σ z.1) (kn_zT τ z.1) (kn_zP (kn_zZ z (.inr (.inl (0, L)))) i 3 [some (.ref z.1)])) : kn_Ev X MX4_init [.ref i, .int (nI L)] σ τ z (c + 1) (n + L) Q := by
  have h31 : L < 2 ^ 31 := by omega
  refine kn_entry (by decide +kernel) rfl (Nat.le_of_ble_eq_true rfl) ?_
  show kn_Go X MX4_init 0 [(0, .ref i), (1, .int (nI L))] [] _ _ _ _ _ _
  refine k_aload_n 0 dX4_init_0 rfl rfl ?_
  refine k_objInit dX4_init_1 wL_X4_1 wOI (by decide) ?_
  refine k_aload_n 0 dX4_init_4 rfl rfl ?_
  refine k_iload_n 1 dX4_init_5 rfl rfl ?_
  refine k_iconst (0) dX4_init_6 (by decide) ?_
  refine k_invS (As := [_, _]) dX4_init_7 mm_J9_max_7cf53 wL_X4_7 ⟨by decide, by decide⟩ rfl rfl (Nat.le_of_ble_eq_true rfl) (Nat.zero_le _) (Nat.zero_le _) (m_J9_max_7cf53 ⟨rfl, ?_⟩)
  rw [kn_max0 h31]
  show kn_Go X MX4_init 10 _ _ σ τ z (c + 1) (n + L) Q
  refine k_newarrI dX4_init_10 (nI_pos h31) (nI_clamp h31) (by omega) (fun r hr => by cases List.mem_singleton.mp hr; exact hi) (fun r hr => by simp at hr; subst hr; exact hi) ?_
  refine k_putfieldR (t9 := .array .int) dX4_init_12 hc_X4 (Nat.lt_succ_of_lt hi) ((if_neg (Nat.ne_of_lt hi)).trans hz) (Nat.lt_succ_self _) 0 (by decide) wF_X4_13 rfl rfl rfl rfl (by decide +kernel) (fun _ => rfl) (fun _ => rfl) ?_
  refine k_vret dX4_init_15 rfl ?_
  exact hQ

