-- FiringText's constructor
abbrev kn_z1 (z : kn_Z) (i : Nat) : kn_Z :=
  let z1 := kn_zP (kn_nR z 120) i 0 [some (.ref (z.1)), some .null, none, none]
  kn_zP (kn_nR z1 60) i 0 [some (.ref (z.1)), some (.ref (z.1 + 2)), none, none]
set_option maxRecDepth 100000 in
set_option maxHeartbeats 4000000 in
theorem m_X1_init {X : kn_X} {σ : kn_S} {τ : kn_T} {z : kn_Z} {c n : Nat} {Q : kn_Q} {i : Nat} (hi : i < z.1) (hz : z.2 i = .inl (0, [some .null, some .null, none, none])) (hQ : Q (.inl none) (kn_nS (kn_nS σ z.1) (z.1 + 2)) (kn_nT (kn_nT τ z.1) (z.1 + 2)) (kn_z1 z i)) : kn_Ev X MX1_init [.ref i] σ τ z (c + 1 + 1 + 1 + 1) (n + 60 + 1 + 120 + 1) Q := by
  have v1 : ∀ N, i < N → kn_vok N [Value.ref i] := fun N h r hr => by cases List.mem_singleton.mp hr; exact h
  have v2 : ∀ N, i < N → kn_vok N (([(0, Value.ref i)] : kn_L).map (fun q => q.2)) := fun N h r hr => by cases List.mem_singleton.mp hr; exact h
  refine kn_entry (by decide +kernel) rfl (Nat.le_of_ble_eq_true rfl) ?_
  show kn_Go X MX1_init 0 [(0, .ref i)] [] _ _ _ _ _ _
  refine k_aload_n 0 dX1_init_0 rfl rfl ?_
  refine k_objInit dX1_init_1 wL_X1_3 wOI (by decide) ?_
  refine k_aload_n 0 dX1_init_4 rfl rfl ?_
  refine k_newRow (L := 120) dX1_init_5 dX1_init_8 dX1_init_9 dX1_init_11 (by decide) (by decide) wC_X1_9 wL_X1_11 ⟨by decide, by decide⟩ (v1 _ hi) (v2 _ hi) (Nat.le_of_ble_eq_true rfl) ?_
  refine k_putfieldR (t9 := .object "KnockControl$Row") dX1_init_14 hc_X1 (show i < z.1 + 2 by omega) ((kn_nR_lo hi).trans hz) (show z.1 < z.1 + 2 by omega) 0 (by decide) wF_X1_14 rfl rfl rfl rfl (by decide +kernel) (fun _ => rfl) (fun _ => rfl) ?_
  refine k_aload_n 0 dX1_init_17 rfl rfl ?_
  refine k_newRow (L := 60) dX1_init_18 dX1_init_21 dX1_init_22 dX1_init_24 (by decide) (by decide) wC_X1_9 wL_X1_11 ⟨by decide, by decide⟩ (v1 _ (show i < z.1 + 2 by omega)) (v2 _ (show i < z.1 + 2 by omega)) (Nat.le_of_ble_eq_true rfl) ?_
  refine k_putfieldR (t9 := .object "KnockControl$Row") dX1_init_27 hc_X1 (show i < z.1 + 2 + 2 by omega) ((kn_nR_lo (show i < z.1 + 2 by omega)).trans (if_pos rfl)) (show z.1 + 2 < z.1 + 2 + 2 by omega) 1 (by decide) wF_X1_20 rfl rfl rfl rfl (by decide +kernel) (fun _ => rfl) (fun _ => rfl) ?_
  refine k_vret dX1_init_30 rfl ?_
  exact hQ

