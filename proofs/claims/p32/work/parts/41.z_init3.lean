-- Log's and FiringText's constructors
theorem kn_nR_lo {z : kn_Z} {L i : Nat} (h : i < z.1) : (kn_nR z L).2 i = z.2 i := by
  show (if i = z.1 then _ else _) = _
  rw [if_neg (by omega)]
  show (if i = z.1 + 1 then _ else _) = _
  rw [if_neg (by omega)]
  show (if i = z.1 then _ else _) = _
  rw [if_neg (by omega)]
abbrev kn_z3 (z : kn_Z) (i : Nat) : kn_Z :=
  let z1 := kn_zP (kn_nR z 60) i 2 [some (.ref z.1), some .null, some .null, none, none]
  let z2 := kn_zP (kn_nR z1 60) i 2 [some (.ref z.1), some (.ref (z.1 + 2)), some .null, none, none]
  kn_zP (kn_nR z2 60) i 2 [some (.ref z.1), some (.ref (z.1 + 2)), some (.ref (z.1 + 4)), none, none]
set_option maxRecDepth 100000 in
set_option maxHeartbeats 4000000 in
theorem m_X3_init {X : kn_X} {σ : kn_S} {τ : kn_T} {z : kn_Z} {c n : Nat} {Q : kn_Q} {i : Nat} (hi : i < z.1) (hz : z.2 i = .inl (2, [some .null, some .null, some .null, none, none])) (hQ : Q (.inl none) (kn_nS (kn_nS (kn_nS σ z.1) (z.1 + 2)) (z.1 + 4)) (kn_nT (kn_nT (kn_nT τ z.1) (z.1 + 2)) (z.1 + 4)) (kn_z3 z i)) : kn_Ev X MX3_init [.ref i] σ τ z (c + 1 + 1 + 1 + 1 + 1 + 1) (n + 60 + 1 + 60 + 1 + 60 + 1) Q := by
  have v1 : ∀ N, i < N → kn_vok N [Value.ref i] := fun N h r hr => by cases List.mem_singleton.mp hr; exact h
  have v2 : ∀ N, i < N → kn_vok N (([(0, Value.ref i)] : kn_L).map (fun q => q.2)) := fun N h r hr => by cases List.mem_singleton.mp hr; exact h
  refine kn_entry (by decide +kernel) rfl (Nat.le_of_ble_eq_true rfl) ?_
  show kn_Go X MX3_init 0 [(0, .ref i)] [] _ _ _ _ _ _
  refine k_aload_n 0 dX3_init_0 rfl rfl ?_
  refine k_objInit dX3_init_1 wL_X3_3 wOI (by decide) ?_
  refine k_aload_n 0 dX3_init_4 rfl rfl ?_
  refine k_newRow (L := 60) dX3_init_5 dX3_init_8 dX3_init_9 dX3_init_11 (by decide) (by decide) wC_X3_9 wL_X3_11 ⟨by decide, by decide⟩ (v1 _ hi) (v2 _ hi) (Nat.le_of_ble_eq_true rfl) ?_
  refine k_putfieldR (t9 := .object "KnockControl$Row") dX3_init_14 hc_X3 (show i < z.1 + 2 by omega) ((kn_nR_lo hi).trans hz) (show z.1 < z.1 + 2 by omega) 0 (by decide) wF_X3_14 rfl rfl rfl rfl (by decide +kernel) (fun _ => rfl) (fun _ => rfl) ?_
  refine k_aload_n 0 dX3_init_17 rfl rfl ?_
  refine k_newRow (L := 60) dX3_init_18 dX3_init_21 dX3_init_22 dX3_init_24 (by decide) (by decide) wC_X3_9 wL_X3_11 ⟨by decide, by decide⟩ (v1 _ (show i < z.1 + 2 by omega)) (v2 _ (show i < z.1 + 2 by omega)) (Nat.le_of_ble_eq_true rfl) ?_
  refine k_putfieldR (t9 := .object "KnockControl$Row") dX3_init_27 hc_X3 (show i < z.1 + 2 + 2 by omega) ((kn_nR_lo (show i < z.1 + 2 by omega)).trans (if_pos rfl)) (show z.1 + 2 < z.1 + 2 + 2 by omega) 1 (by decide) wF_X3_20 rfl rfl rfl rfl (by decide +kernel) (fun _ => rfl) (fun _ => rfl) ?_
  refine k_aload_n 0 dX3_init_30 rfl rfl ?_
  refine k_newRow (L := 60) dX3_init_31 dX3_init_34 dX3_init_35 dX3_init_37 (by decide) (by decide) wC_X3_9 wL_X3_11 ⟨by decide, by decide⟩ (v1 _ (show i < z.1 + 2 + 2 by omega)) (v2 _ (show i < z.1 + 2 + 2 by omega)) (Nat.le_of_ble_eq_true rfl) ?_
  refine k_putfieldR (t9 := .object "KnockControl$Row") dX3_init_40 hc_X3 (show i < z.1 + 2 + 2 + 2 by omega) ((kn_nR_lo (show i < z.1 + 2 + 2 by omega)).trans (if_pos rfl)) (show z.1 + 2 + 2 < z.1 + 2 + 2 + 2 by omega) 2 (by decide) wF_X3_23 rfl rfl rfl rfl (by decide +kernel) (fun _ => rfl) (fun _ => rfl) ?_
  refine k_vret dX3_init_43 rfl ?_
  exact hQ

