-- the law, from its first instruction
theorem kn_dX6 : ∀ j, j < 4 → ∃ d, ([some .null, some .null, some .null, some .null] : List (Option Value))[j]? = some d ∧ defaultValue (tyX6 j) = kn_df d := by
  intro j hj
  rcases j with _ | _ | _ | _ | j
  · exact ⟨some .null, rfl, rfl⟩
  · exact ⟨some .null, rfl, rfl⟩
  · exact ⟨some .null, rfl, rfl⟩
  · exact ⟨some .null, rfl, rfl⟩
  · omega
abbrev kn_dsM : List (Option Value) := [some .null, some .null, some .null, none, none, some .null, none, none, none, none, none, none, some (.long 0)]
theorem kn_dX7 : ∀ j, j < 13 → ∃ d, kn_dsM[j]? = some d ∧ defaultValue (tyX7 j) = kn_df d := by
  intro j hj
  rcases j with _ | _ | _ | _ | _ | _ | _ | _ | _ | _ | _ | _ | _ | j
  · exact ⟨some .null, rfl, rfl⟩
  · exact ⟨some .null, rfl, rfl⟩
  · exact ⟨some .null, rfl, rfl⟩
  · exact ⟨none, rfl, rfl⟩
  · exact ⟨none, rfl, rfl⟩
  · exact ⟨some .null, rfl, rfl⟩
  · exact ⟨none, rfl, rfl⟩
  · exact ⟨none, rfl, rfl⟩
  · exact ⟨none, rfl, rfl⟩
  · exact ⟨none, rfl, rfl⟩
  · exact ⟨none, rfl, rfl⟩
  · exact ⟨none, rfl, rfl⟩
  · exact ⟨some (.long 0), rfl, rfl⟩
  · omega
theorem kn_isK_mono {z z' : kn_Z} (h : kn_isK z) (h1 : z.1 ≤ z'.1) (h2 : ∀ i, i < 128 → z'.2 i = z.2 i) : kn_isK z' := by
  obtain ⟨a0, a1, a2, a3, t1, t2, t3⟩ := h
  exact ⟨⟨Nat.lt_of_lt_of_le a0.1 h1, (h2 0 (by omega)).trans a0.2⟩, kn_isSt_mono a1 h1 (fun i q1 q2 => h2 i (by omega)), kn_isSt_mono a2 h1 (fun i q1 q2 => h2 i (by omega)), kn_isHi_mono a3 h1 (fun i q1 q2 => h2 i (by omega)), ⟨Nat.lt_of_lt_of_le t1.1 h1, (h2 123 (by omega)).trans t1.2⟩, kn_isRow_mono t2 h1 (h2 _ (by omega)) (h2 _ (by omega)), kn_isRow_mono t3 h1 (h2 _ (by omega)) (h2 _ (by omega))⟩
theorem kn_isM_mono {z z' : kn_Z} (h : kn_isM z) (h1 : z.1 ≤ z'.1) (h2 : ∀ i, 128 ≤ i → i < 133 → z'.2 i = z.2 i) : kn_isM z' := by
  obtain ⟨a0, a1, a2, a3, a4⟩ := h
  exact ⟨⟨Nat.lt_of_lt_of_le a0.1 h1, (h2 128 (by omega) (by omega)).trans a0.2⟩, ⟨Nat.lt_of_lt_of_le a1.1 h1, (h2 129 (by omega) (by omega)).trans a1.2⟩, ⟨Nat.lt_of_lt_of_le a2.1 h1, (h2 130 (by omega) (by omega)).trans a2.2⟩, ⟨Nat.lt_of_lt_of_le a3.1 h1, (h2 131 (by omega) (by omega)).trans a3.2⟩, ⟨Nat.lt_of_lt_of_le a4.1 h1, (h2 132 (by omega) (by omega)).trans a4.2⟩⟩
theorem kn_mZ_lo {z : kn_Z} (h : z.1 = 129) {i : Nat} (hi : i < 128) : (kn_mZ z).2 i = z.2 i := by
  obtain ⟨N, g⟩ := z
  obtain rfl : N = 129 := h
  simp [show ¬ i = 128 by omega, show ¬ i = 129 by omega, show ¬ i = 130 by omega, show ¬ i = 131 by omega, show ¬ i = 132 by omega]
/-- the row before it is begun, as the reference's constructor sets it -/
abbrev kr_T0 (s : kn_S) : kn_S := kn_up (kn_up (kn_up (kn_up (kn_up (kn_up (kn_up (kn_up (kn_up (kn_zS (kn_zS (kn_zS (kn_zS s 129) 130) 131) 132) 129 0 40) 129 1 10) 129 2 20) 129 3 150) 129 4 40) 129 5 30) 129 6 10) 129 7 60) 129 10 1
theorem kr_T0_ne (s : kn_S) {a : Nat} (h : a < 129) : kr_T0 s a = s a := by
  unfold kr_T0
  rw [kn_up_ne _ _ _ (by omega), kn_up_ne _ _ _ (by omega), kn_up_ne _ _ _ (by omega), kn_up_ne _ _ _ (by omega), kn_up_ne _ _ _ (by omega), kn_up_ne _ _ _ (by omega), kn_up_ne _ _ _ (by omega), kn_up_ne _ _ _ (by omega), kn_up_ne _ _ _ (by omega)]
  funext k
  simp only [kn_zS]
  rw [if_neg (by omega), if_neg (by omega), if_neg (by omega), if_neg (by omega)]
theorem kr_first (s : kn_S) {c : Nat} (hc : c < 8) : kn_first c = kr_T0 s 129 c ∧ kr_le (kr_T0 s 129 c) 1000 := by
  have : c = 0 ∨ c = 1 ∨ c = 2 ∨ c = 3 ∨ c = 4 ∨ c = 5 ∨ c = 6 ∨ c = 7 := by omega
  rcases this with rfl | rfl | rfl | rfl | rfl | rfl | rfl | rfl
  · exact ⟨rfl, 40, by decide, rfl⟩
  · exact ⟨rfl, 10, by decide, rfl⟩
  · exact ⟨rfl, 20, by decide, rfl⟩
  · exact ⟨rfl, 150, by decide, rfl⟩
  · exact ⟨rfl, 40, by decide, rfl⟩
  · exact ⟨rfl, 30, by decide, rfl⟩
  · exact ⟨rfl, 10, by decide, rfl⟩
  · exact ⟨rfl, 60, by decide, rfl⟩
/-- the two as they were just made -/
theorem kr_start {X : kn_X} {s sf σa : kn_S} (h1 : ∀ a, 1 ≤ a → a < 21 → s a = kn_sI X σa 1 a) (h41 : s 41 1 = 0 ∧ s 41 2 = 0) (h01 : ∀ r, r < 4 → s (43 + 20 * r) 12 = 0 ∧ s (43 + 20 * r) 16 = 0) (h123 : s 123 2 = 0)
    (flo : ∀ a, a < 128 → sf a = s a) (f129 : ∀ u : kn_S, u = kn_zS s 128 → sf 129 = kg_begins (kr_T0 u) 4 129) (f128 : ∀ j, sf 128 j = 0) : kr_Ws sf 0 := by
  refine ⟨4, 0, 0, 0, 0, ?_, Nat.le_refl _, ⟨⟨⟨?_, by decide⟩, ⟨?_, by decide⟩, f128 3⟩, fun j hj => absurd hj (by omega), fun r hr => ?_⟩, ?_, f128 6, by decide, fun i hi => absurd hi (by omega)⟩
  · rw [f129 _ rfl]
    have hR := kr_restart (s := kn_up (kn_up (kf_ini X σa 1 8) 1 15 1) 1 16 0) (b := 1) (t := kr_T0 (kn_zS s 128)) (M := 4) (by decide) (fun c hc => ?_) ⟨40, by decide, rfl⟩ ⟨?_, 1, by decide, rfl⟩ ⟨rfl, Or.inl rfl⟩
    · exact hR.to fun a q1 q2 => by rw [flo a (by omega), h1 a q1 (by omega)]; rfl
    · rw [kn_up_ne _ _ _ (by decide), kn_up_ne _ _ _ (by decide), kf_ini_at X σa 8 hc (Nat.le_refl _)]
      exact kr_first _ hc
    · rw [kn_upk (by decide)]; rfl
  · rw [flo 41 (by decide)]; exact h41.1
  · rw [flo 41 (by decide)]; exact h41.2
  · rw [flo _ (by omega)]
    exact ⟨Or.inl (h01 r hr).1, Or.inl (h01 r hr).2⟩
  · rw [flo 123 (by decide)]; exact h123
set_option maxRecDepth 100000 in
set_option maxHeartbeats 4000000 in
theorem m_law {X : kn_X} {σ : kn_S} {τ : kn_T} {z : kn_Z} {c n : Nat} {Q : kn_Q} (hz0 : z.1 = 0) (hL : X.1 ≤ 2560) (hQ : ∀ σ9 τ9 z9, Q (.inl (some (.int 1))) σ9 τ9 z9) : kn_Go X ML_law 0 [(0, .retAddr 0)] [] σ τ z (c + 2 * 512 + 135) (n + 12 * 512 + 3506) Q := by
  have v0 : ∀ N, kn_vok N (([(0, Value.retAddr 0)] : kn_L).map (fun q => q.2)) := fun N r hr => by simp at hr
  have v1 : ∀ N, 0 < N → kn_vok N (([(1, Value.ref 0), (0, Value.retAddr 0)] : kn_L).map (fun q => q.2)) := fun N h r hr => by
    have h9 : r = 0 := by simpa using hr
    rw [h9]; exact h
  have v2 : ∀ N, 128 < N → kn_vok N (([(2, Value.ref 128), (1, Value.ref 0), (0, Value.retAddr 0)] : kn_L).map (fun q => q.2)) := fun N h r hr => by
    have h9 : r = 128 ∨ r = 0 := by simpa using hr
    rcases h9 with h9 | h9 <;> rw [h9]
    · exact h
    · exact Nat.lt_trans (by decide) h
  have v3 : ∀ N, 133 < N → kn_vok N (([(3, Value.ref 133), (2, Value.ref 128), (1, Value.ref 0), (0, Value.retAddr 0)] : kn_L).map (fun q => q.2)) := fun N h r hr => by
    have h9 : r = 133 ∨ r = 128 ∨ r = 0 := by simpa using hr
    rcases h9 with h9 | h9 | h9 <;> rw [h9]
    · exact h
    · exact Nat.lt_trans (by decide) h
    · exact Nat.lt_trans (by decide) h
  have vn : ∀ N, kn_vok N ([] : List Value) := fun N r hr => absurd hr List.not_mem_nil
  have vs : ∀ N k, k < N → kn_vok N [Value.ref k] := fun N k h r hr => by cases List.mem_singleton.mp hr; exact h
  rw [show c + 2 * 512 + 135 = (c + 2 * 512 + 134) + 1 by omega, show n + 12 * 512 + 3506 = (n + 12 * 512 + 3502) + 4 by omega]
  refine k_new dL_law_0 hc_X6 wC_L_8 wI_X6 wN_X6 kn_dX6 (fun r hr => by simp at hr) (vn _) (v0 _) ?_
  rw [hz0]
  refine k_dup dL_law_3 rfl ?_
  have zan : (kn_zZ z (.inl (5, [some .null, some .null, some .null, some .null]))).1 = 1 := by show z.1 + 1 = 1; omega
  have zae : (kn_zZ z (.inl (5, [some .null, some .null, some .null, some .null]))).2 0 = .inl (5, [some .null, some .null, some .null, some .null]) := if_pos hz0.symm
  generalize kn_zZ z (.inl (5, [some .null, some .null, some .null, some .null])) = za at zan zae ⊢
  refine k_invI (As := []) (i := 0) (rest := [.ref 0]) (c1 := 0 + 127) (n1 := 0 + 1843) dL_law_4 mm_X6_init wL_L_83 ⟨by decide, by decide⟩ rfl rfl (Nat.le_of_ble_eq_true rfl) (by omega) (by omega) (vs _ _ (by omega)) (v0 _) ?_
  refine m_X6_init zan zae (fun σ1 τ1 z1 e1 hK hσa h41 h01 h123 => ?_)
  show kn_Go X ML_law 7 [(0, .retAddr 0)] [.ref 0] σ1 τ1 z1 (c + 2 * 512 + 134 - (0 + 127)) (n + 12 * 512 + 3502 - (0 + 1843)) Q
  rw [show c + 2 * 512 + 134 - (0 + 127) = (c + 2 * 512 + 6) + 1 by omega, show n + 12 * 512 + 3502 - (0 + 1843) = (n + 12 * 512 + 1646) + 13 by omega]
  refine k_astore_n 1 (lv' := [(1, _), (0, _)]) dL_law_7 rfl (by decide) rfl ?_
  -- the reference
  refine k_new dL_law_8 hc_X7 wC_L_84 wI_X7 wN_X7 kn_dX7 (fun r hr => by simp [kn_dsM] at hr) (vn _) (v1 _ (by omega)) ?_
  rw [e1]
  refine k_dup dL_law_11 rfl ?_
  have zbn : (kn_zZ z1 (.inl (6, kn_dsM))).1 = 129 := by show z1.1 + 1 = 129; omega
  have zbe : (kn_zZ z1 (.inl (6, kn_dsM))).2 128 = .inl (6, kn_dsM) := if_pos e1.symm
  have zbl : ∀ i, i < 128 → (kn_zZ z1 (.inl (6, kn_dsM))).2 i = z1.2 i := fun i hi => if_neg (by omega)
  generalize kn_zZ z1 (.inl (6, kn_dsM)) = zb at zbn zbe zbl ⊢
  refine k_invI (As := []) (i := 128) (rest := [.ref 128]) (c1 := 0 + 1 + 1 + 1 + 1) (n1 := 0 + 120 + 254 + 1016 + 254) dL_law_12 mm_X7_init wL_L_86 ⟨by decide, by decide⟩ rfl rfl (Nat.le_of_ble_eq_true rfl) (by omega) (by omega) (vs _ _ (by omega)) (v1 _ (by omega)) ?_
  refine m_X7_init zbn zbe (fun hM => ?_)
  show kn_Go X ML_law 15 [(1, .ref 0), (0, .retAddr 0)] [.ref 128] (kg_begins (kr_T0 (kn_zS σ1 128)) 4) _ (kn_mZ zb) (c + 2 * 512 + 6 - (0 + 1 + 1 + 1 + 1)) (n + 12 * 512 + 1646 - (0 + 120 + 254 + 1016 + 254)) Q
  rw [show c + 2 * 512 + 6 - (0 + 1 + 1 + 1 + 1) = (c + 2 * 512 + 1) + 1 by omega, show n + 12 * 512 + 1646 - (0 + 120 + 254 + 1016 + 254) = (n + 12 * 512 + 1) + 1 by omega]
  have zcn : (kn_mZ zb).1 = 133 := by show zb.1 + 1 + 1 + 1 + 1 = 133; omega
  have zcl : ∀ i, i < 128 → (kn_mZ zb).2 i = z1.2 i := fun i hi => (kn_mZ_lo zbn hi).trans (zbl i hi)
  generalize kn_mZ zb = zc at hM zcn zcl ⊢
  refine k_astore_n 2 (lv' := [(2, _), (1, _), (0, _)]) dL_law_15 rfl (by decide) rfl ?_
  refine k_iconst (1) dL_law_16 (by decide) ?_
  refine k_newarrL (L := 1) dL_law_17 (by decide) (by decide) (by decide) (vn _) (v2 _ (by omega)) ?_
  rw [zcn]
  have zdn : (kn_zZ zc (.inr (.inl (1, 1)))).1 = 134 := by show zc.1 + 1 = 134; omega
  have zde : (kn_zZ zc (.inr (.inl (1, 1)))).2 133 = .inr (.inl (1, 1)) := if_pos zcn.symm
  have zdl : ∀ i, i < 133 → (kn_zZ zc (.inr (.inl (1, 1)))).2 i = zc.2 i := fun i hi => if_neg (by omega)
  generalize kn_zZ zc (.inr (.inl (1, 1))) = zd at zdn zde zdl ⊢
  refine k_astore_n 3 (lv' := [(3, _), (2, _), (1, _), (0, _)]) dL_law_19 rfl (by decide) rfl ?_
  refine k_iconst (1) dL_law_20 (by decide) ?_
  refine k_newarrD (L := 1) dL_law_21 (by decide) (by decide) (by decide) (vn _) (v3 _ (by omega)) ?_
  rw [zdn]
  have zen : (kn_zZ zd (.inr (.inl (2, 1)))).1 = 135 := by show zd.1 + 1 = 135; omega
  have zee : (kn_zZ zd (.inr (.inl (2, 1)))).2 134 = .inr (.inl (2, 1)) := if_pos zdn.symm
  have zel : ∀ i, i < 134 → (kn_zZ zd (.inr (.inl (2, 1)))).2 i = zd.2 i := fun i hi => if_neg (by omega)
  generalize kn_zZ zd (.inr (.inl (2, 1))) = ze at zen zee zel ⊢
  refine k_astore (lv' := [(4, _), (3, _), (2, _), (1, _), (0, _)]) dL_law_23 (by decide) rfl ?_
  refine k_iconst (0) dL_law_25 (by decide) ?_
  refine k_istore (lv' := [(5, _), (4, _), (3, _), (2, _), (1, _), (0, _)]) dL_law_26 (by decide) rfl ?_
  have hV : kr_V ze := ⟨kn_isK_mono hK (by omega) (fun i hi => (zel i (by omega)).trans ((zdl i (by omega)).trans (zcl i hi))), kn_isM_mono hM (by omega) (fun i q1 q2 => (zel i (by omega)).trans (zdl i (by omega))), ⟨by omega, (zel 133 (by decide)).trans zde⟩, ⟨by omega, zee⟩⟩
  obtain ⟨σa, -, hσ⟩ := hσa
  have W : kr_Ws (kn_zS (kn_zS (kg_begins (kr_T0 (kn_zS σ1 128)) 4) 133) 134) 0 := by
    refine kr_start hσ h41 h01 h123 (fun a ha => ?_) (fun u hu => ?_) (fun j => ?_)
    · funext k
      show (if a = 134 then 0 else if a = 133 then 0 else kg_begins (kr_T0 (kn_zS σ1 128)) 4 a k) = σ1 a k
      rw [if_neg (by omega), if_neg (by omega), kg_begins_ne _ _ (by omega), kr_T0_ne _ (by omega)]
      exact if_neg (by omega)
    · rw [hu]
      rfl
    · show kg_begins (kr_T0 (kn_zS σ1 128)) 4 128 j = 0
      rw [kg_begins_ne _ _ (by decide), kr_T0_ne _ (by decide)]
      rfl
  exact m_law_loop hV (by omega) (fun σ9 τ9 => hQ σ9 τ9 ze) 512 0 0 _ _ (by omega) (Nat.zero_le _) (by omega) W
