-- the model's constructor
abbrev kn_mZ (z : kn_Z) : kn_Z :=
  let z1 := kn_zP (kn_zZ z (.inr (.inl (0, 254)))) 128 6 [some (.ref 129), some .null, some .null, none, none, some .null, none, none, none, none, none, none, some (.long 0)]
  let z2 := kn_zP (kn_zZ z1 (.inr (.inl (0, 1016)))) 128 6 [some (.ref 129), some (.ref 130), some .null, none, none, some .null, none, none, none, none, none, none, some (.long 0)]
  let z3 := kn_zP (kn_zZ z2 (.inr (.inl (0, 254)))) 128 6 [some (.ref 129), some (.ref 130), some (.ref 131), none, none, some .null, none, none, none, none, none, none, some (.long 0)]
  kn_zP (kn_zZ z3 (.inr (.inl (0, 120)))) 128 6 [some (.ref 129), some (.ref 130), some (.ref 131), none, none, some (.ref 132), none, none, none, none, none, none, some (.long 0)]
set_option maxRecDepth 100000 in
set_option maxHeartbeats 4000000 in
theorem m_X7_init {X : kn_X} {σ : kn_S} {τ : kn_T} {z : kn_Z} {c n : Nat} {Q : kn_Q} (h1 : z.1 = 129) (hz : z.2 128 = .inl (6, [some .null, some .null, some .null, none, none, some .null, none, none, none, none, none, none, some (.long 0)])) (hQ : kn_isM (kn_mZ z) → Q (.inl none) (kg_begins (kn_up (kn_up (kn_up (kn_up (kn_up (kn_up (kn_up (kn_up (kn_up (kn_zS (kn_zS (kn_zS (kn_zS σ 129) 130) 131) 132) 129 0 40) 129 1 10) 129 2 20) 129 3 150) 129 4 40) 129 5 30) 129 6 10) 129 7 60) 129 10 1) 4) (kn_zT (kn_zT (kn_zT (kn_zT τ 129) 130) 131) 132) (kn_mZ z)) : kn_Ev X MX7_init [.ref 128] σ τ z (c + 1 + 1 + 1 + 1) (n + 120 + 254 + 1016 + 254) Q := by
  obtain ⟨N, g⟩ := z
  obtain rfl : N = 129 := h1
  have v1 : ∀ N, 128 < N → kn_vok N [Value.ref 128] := fun N h r hr => by cases List.mem_singleton.mp hr; exact h
  have v2 : ∀ N, 128 < N → kn_vok N (([(0, Value.ref 128)] : kn_L).map (fun q => q.2)) := fun N h r hr => by cases List.mem_singleton.mp hr; exact h
  refine kn_entry (by decide +kernel) rfl (Nat.le_of_ble_eq_true rfl) ?_
  show kn_Go X MX7_init 0 [(0, .ref 128)] [] _ _ _ _ _ _
  refine k_aload_n 0 dX7_init_0 rfl rfl ?_
  refine k_objInit dX7_init_1 wL_X7_1 wOI (by decide) ?_
  refine k_aload_n 0 dX7_init_4 rfl rfl ?_
  refine k_sipush (254) dX7_init_5 (by decide) ?_
  refine k_newarrI (L := 254) dX7_init_8 (by decide) (by decide) (by decide) (v1 _ (show 128 < 129 by decide)) (v2 _ (show 128 < 129 by decide)) ?_
  refine k_putfieldR (t9 := .array .int) dX7_init_10 hc_X7 (show 128 < 130 by decide) hz (show 129 < 130 by decide) 0 (by decide) wF_X7_7 rfl rfl rfl rfl (by decide +kernel) (fun _ => rfl) (fun _ => rfl) ?_
  refine k_aload_n 0 dX7_init_13 rfl rfl ?_
  refine k_sipush (1016) dX7_init_14 (by decide) ?_
  refine k_newarrI (L := 1016) dX7_init_17 (by decide) (by decide) (by decide) (v1 _ (show 128 < 130 by decide)) (v2 _ (show 128 < 130 by decide)) ?_
  refine k_putfieldR (t9 := .array .int) dX7_init_19 hc_X7 (show 128 < 131 by decide) rfl (show 130 < 131 by decide) 1 (by decide) wF_X7_13 rfl rfl rfl rfl (by decide +kernel) (fun _ => rfl) (fun _ => rfl) ?_
  refine k_aload_n 0 dX7_init_22 rfl rfl ?_
  refine k_sipush (254) dX7_init_23 (by decide) ?_
  refine k_newarrI (L := 254) dX7_init_26 (by decide) (by decide) (by decide) (v1 _ (show 128 < 131 by decide)) (v2 _ (show 128 < 131 by decide)) ?_
  refine k_putfieldR (t9 := .array .int) dX7_init_28 hc_X7 (show 128 < 132 by decide) rfl (show 131 < 132 by decide) 2 (by decide) wF_X7_16 rfl rfl rfl rfl (by decide +kernel) (fun _ => rfl) (fun _ => rfl) ?_
  refine k_aload_n 0 dX7_init_31 rfl rfl ?_
  refine k_bipush (120) dX7_init_32 (by decide) ?_
  refine k_newarrI (L := 120) dX7_init_34 (by decide) (by decide) (by decide) (v1 _ (show 128 < 132 by decide)) (v2 _ (show 128 < 132 by decide)) ?_
  refine k_putfieldR (t9 := .array .int) dX7_init_36 hc_X7 (show 128 < 133 by decide) rfl (show 132 < 133 by decide) 5 (by decide) wF_X7_19 rfl rfl rfl rfl (by decide +kernel) (fun _ => rfl) (fun _ => rfl) ?_
  have hM : kn_isM (kn_mZ (129, g)) := ⟨⟨(by decide : 128 < 133), rfl⟩, ⟨(by decide : 129 < 133), rfl⟩, ⟨(by decide : 130 < 133), rfl⟩, ⟨(by decide : 131 < 133), rfl⟩, ⟨(by decide : 132 < 133), rfl⟩⟩
  have hQ := hQ hM
  show kn_Go X MX7_init 39 _ _ (kn_zS (kn_zS (kn_zS (kn_zS σ 129) 130) 131) 132) (kn_zT (kn_zT (kn_zT (kn_zT τ 129) 130) 131) 132) (kn_mZ (129, g)) c n Q
  refine k_aload_n 0 dX7_init_39 rfl rfl ?_
  refine k_getfield dX7_init_40 hc_X7 hM.1.1 hM.1.2 0 (by decide) wF_X7_7 rfl ?_
  refine k_iconst (0) dX7_init_43 (by decide) ?_
  refine k_bipush (40) dX7_init_44 (by decide) ?_
  refine k_iastoreN (0) dX7_init_46 hM.2.1.1 hM.2.1.2 rfl ⟨by decide, by decide⟩ ?_
  refine k_aload_n 0 dX7_init_47 rfl rfl ?_
  refine k_getfield dX7_init_48 hc_X7 hM.1.1 hM.1.2 0 (by decide) wF_X7_7 rfl ?_
  refine k_iconst (1) dX7_init_51 (by decide) ?_
  refine k_bipush (10) dX7_init_52 (by decide) ?_
  refine k_iastoreN (1) dX7_init_54 hM.2.1.1 hM.2.1.2 rfl ⟨by decide, by decide⟩ ?_
  refine k_aload_n 0 dX7_init_55 rfl rfl ?_
  refine k_getfield dX7_init_56 hc_X7 hM.1.1 hM.1.2 0 (by decide) wF_X7_7 rfl ?_
  refine k_iconst (2) dX7_init_59 (by decide) ?_
  refine k_bipush (20) dX7_init_60 (by decide) ?_
  refine k_iastoreN (2) dX7_init_62 hM.2.1.1 hM.2.1.2 rfl ⟨by decide, by decide⟩ ?_
  refine k_aload_n 0 dX7_init_63 rfl rfl ?_
  refine k_getfield dX7_init_64 hc_X7 hM.1.1 hM.1.2 0 (by decide) wF_X7_7 rfl ?_
  refine k_iconst (3) dX7_init_67 (by decide) ?_
  refine k_sipush (150) dX7_init_68 (by decide) ?_
  refine k_iastoreN (3) dX7_init_71 hM.2.1.1 hM.2.1.2 rfl ⟨by decide, by decide⟩ ?_
  refine k_aload_n 0 dX7_init_72 rfl rfl ?_
  refine k_getfield dX7_init_73 hc_X7 hM.1.1 hM.1.2 0 (by decide) wF_X7_7 rfl ?_
  refine k_iconst (4) dX7_init_76 (by decide) ?_
  refine k_bipush (40) dX7_init_77 (by decide) ?_
  refine k_iastoreN (4) dX7_init_79 hM.2.1.1 hM.2.1.2 rfl ⟨by decide, by decide⟩ ?_
  refine k_aload_n 0 dX7_init_80 rfl rfl ?_
  refine k_getfield dX7_init_81 hc_X7 hM.1.1 hM.1.2 0 (by decide) wF_X7_7 rfl ?_
  refine k_iconst (5) dX7_init_84 (by decide) ?_
  refine k_bipush (30) dX7_init_85 (by decide) ?_
  refine k_iastoreN (5) dX7_init_87 hM.2.1.1 hM.2.1.2 rfl ⟨by decide, by decide⟩ ?_
  refine k_aload_n 0 dX7_init_88 rfl rfl ?_
  refine k_getfield dX7_init_89 hc_X7 hM.1.1 hM.1.2 0 (by decide) wF_X7_7 rfl ?_
  refine k_bipush (6) dX7_init_92 (by decide) ?_
  refine k_bipush (10) dX7_init_94 (by decide) ?_
  refine k_iastoreN (6) dX7_init_96 hM.2.1.1 hM.2.1.2 rfl ⟨by decide, by decide⟩ ?_
  refine k_aload_n 0 dX7_init_97 rfl rfl ?_
  refine k_getfield dX7_init_98 hc_X7 hM.1.1 hM.1.2 0 (by decide) wF_X7_7 rfl ?_
  refine k_bipush (7) dX7_init_101 (by decide) ?_
  refine k_bipush (60) dX7_init_103 (by decide) ?_
  refine k_iastoreN (7) dX7_init_105 hM.2.1.1 hM.2.1.2 rfl ⟨by decide, by decide⟩ ?_
  refine k_aload_n 0 dX7_init_106 rfl rfl ?_
  refine k_getfield dX7_init_107 hc_X7 hM.1.1 hM.1.2 0 (by decide) wF_X7_7 rfl ?_
  refine k_bipush (10) dX7_init_110 (by decide) ?_
  refine k_iconst (1) dX7_init_112 (by decide) ?_
  refine k_iastoreN (10) dX7_init_113 hM.2.1.1 hM.2.1.2 rfl ⟨by decide, by decide⟩ ?_
  refine k_aload_n 0 dX7_init_114 rfl rfl ?_
  refine k_iconst (4) dX7_init_115 (by decide) ?_
  refine k_invV (As := [_]) dX7_init_116 mm_X7_begins wL_X7_22 ⟨by decide, by decide⟩ hM.1.1 hM.1.2 rfl rfl (Nat.le_of_ble_eq_true rfl) (Nat.zero_le _) (Nat.zero_le _) (m_X7_begins hM ⟨rfl, ?_⟩)
  refine k_vret dX7_init_119 rfl ?_
  exact hQ
