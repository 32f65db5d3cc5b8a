-- State's constructor: its rows and its log
abbrev kn_z5 (z : kn_Z) (i : Nat) : kn_Z :=
  let z1 := kn_zP (kn_nR z 8) i 4 [some (.ref (z.1)), some .null, some .null, some .null, some .null, some .null, some .null, none, none, none, none, none, none, none, none, none, none]
  let z2 := kn_zP (kn_nR z1 8) i 4 [some (.ref (z.1)), some (.ref (z.1 + 2)), some .null, some .null, some .null, some .null, some .null, none, none, none, none, none, none, none, none, none, none]
  let z3 := kn_zP (kn_nR z2 8) i 4 [some (.ref (z.1)), some (.ref (z.1 + 2)), some (.ref (z.1 + 4)), some .null, some .null, some .null, some .null, none, none, none, none, none, none, none, none, none, none]
  let z4 := kn_zP (kn_nR z3 8) i 4 [some (.ref (z.1)), some (.ref (z.1 + 2)), some (.ref (z.1 + 4)), some (.ref (z.1 + 6)), some .null, some .null, some .null, none, none, none, none, none, none, none, none, none, none]
  let z5 := kn_zP (kn_nR z4 8) i 4 [some (.ref (z.1)), some (.ref (z.1 + 2)), some (.ref (z.1 + 4)), some (.ref (z.1 + 6)), some (.ref (z.1 + 8)), some .null, some .null, none, none, none, none, none, none, none, none, none, none]
  let z6 := kn_zP (kn_nR z5 24) i 4 [some (.ref (z.1)), some (.ref (z.1 + 2)), some (.ref (z.1 + 4)), some (.ref (z.1 + 6)), some (.ref (z.1 + 8)), some (.ref (z.1 + 10)), some .null, none, none, none, none, none, none, none, none, none, none]
  kn_zP (kn_lZ z6) i 4 [some (.ref (z.1)), some (.ref (z.1 + 2)), some (.ref (z.1 + 4)), some (.ref (z.1 + 6)), some (.ref (z.1 + 8)), some (.ref (z.1 + 10)), some (.ref (z.1 + 12)), none, none, none, none, none, none, none, none, none, none]
set_option maxRecDepth 100000 in
set_option maxHeartbeats 4000000 in
theorem kn_lZ_lo {z : kn_Z} {i : Nat} (h : i < z.1) : (kn_lZ z).2 i = z.2 i := by
  show (if i = z.1 then _ else _) = _
  rw [if_neg (by omega)]
  refine (kn_nR_lo (show i < z.1 + 1 + 2 + 2 by omega)).trans ?_
  show (if i = z.1 then _ else _) = _
  rw [if_neg (by omega)]
  refine (kn_nR_lo (show i < z.1 + 1 + 2 by omega)).trans ?_
  show (if i = z.1 then _ else _) = _
  rw [if_neg (by omega)]
  refine (kn_nR_lo (show i < z.1 + 1 by omega)).trans ?_
  show (if i = z.1 then _ else _) = _
  rw [if_neg (by omega)]
set_option maxRecDepth 100000 in
set_option maxHeartbeats 4000000 in
theorem m_X5_cells {X : kn_X} {σ : kn_S} {τ : kn_T} {z : kn_Z} {c n : Nat} {Q : kn_Q} {i : Nat} (hi : i < z.1) (hz : z.2 i = .inl (4, [some .null, some .null, some .null, some .null, some .null, some .null, some .null, none, none, none, none, none, none, none, none, none, none])) (k : kn_Go X MX5_init 93 [(0, .ref i)] [] (kn_lS (kn_nS (kn_nS (kn_nS (kn_nS (kn_nS (kn_nS σ (z.1)) (z.1 + 2)) (z.1 + 4)) (z.1 + 6)) (z.1 + 8)) (z.1 + 10)) (z.1 + 12)) (kn_lT (kn_nT (kn_nT (kn_nT (kn_nT (kn_nT (kn_nT τ (z.1)) (z.1 + 2)) (z.1 + 4)) (z.1 + 6)) (z.1 + 8)) (z.1 + 10)) (z.1 + 12)) (kn_z5 z i) c n Q) : kn_Go X MX5_init 0 [(0, .ref i)] [] σ τ z (c + 6 + 1 + 1 + 1 + 1 + 1 + 1 + 1 + 1 + 1 + 1 + 1 + 1 + 1) (n + 183 + 5 + 24 + 1 + 8 + 1 + 8 + 1 + 8 + 1 + 8 + 1 + 8 + 1) Q := by
  have v1 : ∀ N, i < N → kn_vok N [Value.ref i] := fun N h r hr => by cases List.mem_singleton.mp hr; exact h
  have v2 : ∀ N, i < N → kn_vok N (([(0, Value.ref i)] : kn_L).map (fun q => q.2)) := fun N h r hr => by cases List.mem_singleton.mp hr; exact h
  refine k_aload_n 0 dX5_init_0 rfl rfl ?_
  refine k_objInit dX5_init_1 wL_X5_3 wOI (by decide) ?_
  refine k_aload_n 0 dX5_init_4 rfl rfl ?_
  refine k_newRow (L := 8) dX5_init_5 dX5_init_8 dX5_init_9 dX5_init_11 (by decide) (by decide) wC_X5_9 wL_X5_11 ⟨by decide, by decide⟩ (v1 _ hi) (v2 _ hi) (Nat.le_of_ble_eq_true rfl) ?_
  refine k_putfieldR (t9 := .object "KnockControl$Row") dX5_init_14 hc_X5 (show i < z.1 + 2 by omega) ((kn_nR_lo hi).trans hz) (show z.1 < z.1 + 2 by omega) 0 (by decide) wF_X5_14 rfl rfl rfl rfl (by decide +kernel) (fun _ => rfl) (fun _ => rfl) ?_
  refine k_aload_n 0 dX5_init_17 rfl rfl ?_
  refine k_newRow (L := 8) dX5_init_18 dX5_init_21 dX5_init_22 dX5_init_24 (by decide) (by decide) wC_X5_9 wL_X5_11 ⟨by decide, by decide⟩ (v1 _ (show i < z.1 + 2 by omega)) (v2 _ (show i < z.1 + 2 by omega)) (Nat.le_of_ble_eq_true rfl) ?_
  refine k_putfieldR (t9 := .object "KnockControl$Row") dX5_init_27 hc_X5 (show i < z.1 + 2 + 2 by omega) ((kn_nR_lo (show i < z.1 + 2 by omega)).trans (if_pos rfl)) (show z.1 + 2 < z.1 + 2 + 2 by omega) 1 (by decide) wF_X5_20 rfl rfl rfl rfl (by decide +kernel) (fun _ => rfl) (fun _ => rfl) ?_
  refine k_aload_n 0 dX5_init_30 rfl rfl ?_
  refine k_newRow (L := 8) dX5_init_31 dX5_init_34 dX5_init_35 dX5_init_37 (by decide) (by decide) wC_X5_9 wL_X5_11 ⟨by decide, by decide⟩ (v1 _ (show i < z.1 + 2 + 2 by omega)) (v2 _ (show i < z.1 + 2 + 2 by omega)) (Nat.le_of_ble_eq_true rfl) ?_
  refine k_putfieldR (t9 := .object "KnockControl$Row") dX5_init_40 hc_X5 (show i < z.1 + 2 + 2 + 2 by omega) ((kn_nR_lo (show i < z.1 + 2 + 2 by omega)).trans (if_pos rfl)) (show z.1 + 2 + 2 < z.1 + 2 + 2 + 2 by omega) 2 (by decide) wF_X5_23 rfl rfl rfl rfl (by decide +kernel) (fun _ => rfl) (fun _ => rfl) ?_
  refine k_aload_n 0 dX5_init_43 rfl rfl ?_
  refine k_newRow (L := 8) dX5_init_44 dX5_init_47 dX5_init_48 dX5_init_50 (by decide) (by decide) wC_X5_9 wL_X5_11 ⟨by decide, by decide⟩ (v1 _ (show i < z.1 + 2 + 2 + 2 by omega)) (v2 _ (show i < z.1 + 2 + 2 + 2 by omega)) (Nat.le_of_ble_eq_true rfl) ?_
  refine k_putfieldR (t9 := .object "KnockControl$Row") dX5_init_53 hc_X5 (show i < z.1 + 2 + 2 + 2 + 2 by omega) ((kn_nR_lo (show i < z.1 + 2 + 2 + 2 by omega)).trans (if_pos rfl)) (show z.1 + 2 + 2 + 2 < z.1 + 2 + 2 + 2 + 2 by omega) 3 (by decide) wF_X5_26 rfl rfl rfl rfl (by decide +kernel) (fun _ => rfl) (fun _ => rfl) ?_
  refine k_aload_n 0 dX5_init_56 rfl rfl ?_
  refine k_newRow (L := 8) dX5_init_57 dX5_init_60 dX5_init_61 dX5_init_63 (by decide) (by decide) wC_X5_9 wL_X5_11 ⟨by decide, by decide⟩ (v1 _ (show i < z.1 + 2 + 2 + 2 + 2 by omega)) (v2 _ (show i < z.1 + 2 + 2 + 2 + 2 by omega)) (Nat.le_of_ble_eq_true rfl) ?_
  refine k_putfieldR (t9 := .object "KnockControl$Row") dX5_init_66 hc_X5 (show i < z.1 + 2 + 2 + 2 + 2 + 2 by omega) ((kn_nR_lo (show i < z.1 + 2 + 2 + 2 + 2 by omega)).trans (if_pos rfl)) (show z.1 + 2 + 2 + 2 + 2 < z.1 + 2 + 2 + 2 + 2 + 2 by omega) 4 (by decide) wF_X5_29 rfl rfl rfl rfl (by decide +kernel) (fun _ => rfl) (fun _ => rfl) ?_
  refine k_aload_n 0 dX5_init_69 rfl rfl ?_
  refine k_newRow (L := 24) dX5_init_70 dX5_init_73 dX5_init_74 dX5_init_76 (by decide) (by decide) wC_X5_9 wL_X5_11 ⟨by decide, by decide⟩ (v1 _ (show i < z.1 + 2 + 2 + 2 + 2 + 2 by omega)) (v2 _ (show i < z.1 + 2 + 2 + 2 + 2 + 2 by omega)) (Nat.le_of_ble_eq_true rfl) ?_
  refine k_putfieldR (t9 := .object "KnockControl$Row") dX5_init_79 hc_X5 (show i < z.1 + 2 + 2 + 2 + 2 + 2 + 2 by omega) ((kn_nR_lo (show i < z.1 + 2 + 2 + 2 + 2 + 2 by omega)).trans (if_pos rfl)) (show z.1 + 2 + 2 + 2 + 2 + 2 < z.1 + 2 + 2 + 2 + 2 + 2 + 2 by omega) 5 (by decide) wF_X5_32 rfl rfl rfl rfl (by decide +kernel) (fun _ => rfl) (fun _ => rfl) ?_
  refine k_aload_n 0 dX5_init_82 rfl rfl ?_
  refine k_newLog dX5_init_83 dX5_init_86 dX5_init_87 wC_X5_35 wNM_X5_37 ⟨by decide, by decide⟩ (v1 _ (show i < z.1 + 2 + 2 + 2 + 2 + 2 + 2 by omega)) (v2 _ (show i < z.1 + 2 + 2 + 2 + 2 + 2 + 2 by omega)) (Nat.le_of_ble_eq_true rfl) ?_
  refine k_putfieldR (t9 := .object "KnockControl$Log") dX5_init_90 hc_X5 (show i < z.1 + 2 + 2 + 2 + 2 + 2 + 2 + 1 + 2 + 2 + 2 by omega) ((kn_lZ_lo (show i < z.1 + 2 + 2 + 2 + 2 + 2 + 2 by omega)).trans (if_pos rfl)) (show z.1 + 2 + 2 + 2 + 2 + 2 + 2 < z.1 + 2 + 2 + 2 + 2 + 2 + 2 + 1 + 2 + 2 + 2 by omega) 6 (by decide) wF_X5_38 rfl rfl rfl rfl (by decide +kernel) (fun _ => rfl) (fun _ => rfl) ?_
  exact k

