-- KnockControl's constructor
theorem kn_dX2 : ∀ j, j < 3 → ∃ d, ([some .null, none, none] : List (Option Value))[j]? = some d ∧ defaultValue (tyX2 j) = kn_df d := by
  intro j hj
  rcases j with _ | _ | _ | j
  · exact ⟨some .null, rfl, rfl⟩
  · exact ⟨none, rfl, rfl⟩
  · exact ⟨none, rfl, rfl⟩
  · omega
theorem kn_dX1 : ∀ j, j < 4 → ∃ d, ([some .null, some .null, none, none] : List (Option Value))[j]? = some d ∧ defaultValue (tyX1 j) = kn_df d := by
  intro j hj
  rcases j with _ | _ | _ | _ | j
  · exact ⟨some .null, rfl, rfl⟩
  · exact ⟨some .null, rfl, rfl⟩
  · exact ⟨none, rfl, rfl⟩
  · exact ⟨none, rfl, rfl⟩
  · omega
set_option maxRecDepth 100000 in
set_option maxHeartbeats 4000000 in
theorem kn_z1_tx {z : kn_Z} (h : z.1 = 124) : kn_isTx (kn_z1 z 123) 123 := by
  obtain ⟨N, g⟩ := z
  obtain rfl : N = 124 := h
  simp [kn_isTx, kn_isRow]
theorem kn_z1_lo {z : kn_Z} {b i : Nat} (hz : z.1 = b + 1) (h : i < b) : (kn_z1 z b).2 i = z.2 i := by
  show (if i = b then _ else _) = _
  rw [if_neg (by omega)]
  refine (kn_nR_lo (show i < z.1 + 2 by omega)).trans ?_
  show (if i = b then _ else _) = _
  rw [if_neg (by omega)]
  exact kn_nR_lo (by omega)
theorem kn_isHi_mono {z z' : kn_Z} (h : kn_isHi z 41) (h1 : z.1 ≤ z'.1) (h2 : ∀ i, 41 ≤ i → i < 123 → z'.2 i = z.2 i) : kn_isHi z' 41 := by
  obtain ⟨a0, a1, a2, a3, a4, a5⟩ := h
  exact ⟨⟨Nat.lt_of_lt_of_le a0.1 h1, (h2 41 (by omega) (by omega)).trans a0.2⟩, ⟨Nat.lt_of_lt_of_le a1.1 h1, (h2 42 (by omega) (by omega)).trans a1.2⟩, kn_isSt_mono a2 h1 (fun i q1 q2 => h2 i (by omega) (by omega)), kn_isSt_mono a3 h1 (fun i q1 q2 => h2 i (by omega) (by omega)), kn_isSt_mono a4 h1 (fun i q1 q2 => h2 i (by omega) (by omega)), kn_isSt_mono a5 h1 (fun i q1 q2 => h2 i (by omega) (by omega))⟩
set_option maxRecDepth 100000 in
set_option maxHeartbeats 4000000 in
theorem m_X6_init {X : kn_X} {σ : kn_S} {τ : kn_T} {z : kn_Z} {c n : Nat} {Q : kn_Q} (h1 : z.1 = 1) (hz : z.2 0 = .inl (5, [some .null, some .null, some .null, some .null]))
    (hQ : ∀ (σ9 : kn_S) (τ9 : kn_T) (z9 : kn_Z), z9.1 = 128 → kn_isK z9 → (∃ σa : kn_S, (∀ j k, 1 < j → j < 21 → σa j k = 0) ∧ ∀ a, 1 ≤ a → a < 21 → σ9 a = kn_sI X σa 1 a) → (σ9 41 1 = 0 ∧ σ9 41 2 = 0) → (∀ r, r < 4 → σ9 (43 + 20 * r) 12 = 0 ∧ σ9 (43 + 20 * r) 16 = 0) → σ9 123 2 = 0 → Q (.inl none) σ9 τ9 z9) : kn_Ev X MX6_init [.ref 0] σ τ z (c + 127) (n + 1843) Q := by
  have v1 : ∀ N, 0 < N → kn_vok N [Value.ref 0] := fun N h r hr => by cases List.mem_singleton.mp hr; exact h
  have v2 : ∀ N, 0 < N → kn_vok N (([(0, Value.ref 0)] : kn_L).map (fun q => q.2)) := fun N h r hr => by cases List.mem_singleton.mp hr; exact h
  have v3 : ∀ N k, 0 < N → k < N → kn_vok N [Value.ref k, Value.ref 0] := fun N k h h2 r hr => by
    rcases List.mem_cons.mp hr with q | q
    · cases q; exact h2
    · cases List.mem_singleton.mp q; exact h
  refine kn_entry (by decide +kernel) rfl (Nat.le_of_ble_eq_true rfl) ?_
  show kn_Go X MX6_init 0 [(0, .ref 0)] [] _ _ _ _ _ _
  refine k_aload_n 0 dX6_init_0 rfl rfl ?_
  refine k_objInit dX6_init_1 wL_X6_3 wOI (by decide) ?_
  refine k_aload_n 0 dX6_init_4 rfl rfl ?_
  rw [show c + 127 = (c + 107) + 19 + 1 by omega, show n + 1843 = (n + 1568) + 258 + 17 by omega]
  refine k_newState dX6_init_5 dX6_init_8 dX6_init_9 wC_X6_9 wL_X6_11 ⟨by decide, by decide⟩ (v1 _ (by omega)) (v2 _ (by omega)) (Nat.le_of_ble_eq_true rfl) (fun σ1 τ1 f1 f2 f3 => ?_)
  have zlo1 : ∀ i, i < z.1 → (kn_z5 (kn_zZ z (.inl (4, kn_dsS))) z.1).2 i = z.2 i := fun i hi => (kn_z5_lo rfl hi).trans (if_neg (by omega))
  have zst1 := kn_z5_st (z := kn_zZ z (.inl (4, kn_dsS))) (b := z.1) rfl
  have zsz1 : (kn_z5 (kn_zZ z (.inl (4, kn_dsS))) z.1).1 = z.1 + 20 := rfl
  generalize kn_z5 (kn_zZ z (.inl (4, kn_dsS))) z.1 = z1 at zlo1 zst1 zsz1 ⊢
  refine k_putfieldR (t9 := .object "KnockControl$State") dX6_init_12 hc_X6 (show 0 < z1.1 by omega) ((zlo1 0 (by omega)).trans hz) (show z.1 < z1.1 by omega) 0 (by decide) wF_X6_12 rfl rfl rfl rfl (by decide +kernel) (fun _ => rfl) (fun _ => rfl) ?_
  rw [h1] at f1 f2 f3 zst1 ⊢
  have zP1 : ∀ i, i ≠ 0 → (kn_zP z1 0 5 ([some .null, some .null, some .null, some .null].set 0 (some (.ref 1)))).2 i = z1.2 i := fun i hi => if_neg hi
  have zP1z : (kn_zP z1 0 5 ([some .null, some .null, some .null, some .null].set 0 (some (.ref 1)))).2 0 = .inl (5, [some (.ref 1), some .null, some .null, some .null]) := rfl
  have zP1n : (kn_zP z1 0 5 ([some .null, some .null, some .null, some .null].set 0 (some (.ref 1)))).1 = 21 := by show z1.1 = 21; omega
  generalize kn_zP z1 0 5 ([some .null, some .null, some .null, some .null].set 0 (some (.ref 1))) = z2 at zP1 zP1z zP1n ⊢
  have st2 : kn_isSt z2 1 := kn_isSt_mono zst1 (by omega) (fun i q1 q2 => zP1 i (by omega))
  -- the trial
  refine k_aload_n 0 dX6_init_15 rfl rfl ?_
  rw [show c + 107 = (c + 87) + 19 + 1 by omega, show n + 1568 = (n + 1293) + 258 + 17 by omega]
  refine k_newState dX6_init_16 dX6_init_19 dX6_init_20 wC_X6_9 wL_X6_11 ⟨by decide, by decide⟩ (v1 _ (by omega)) (v2 _ (by omega)) (Nat.le_of_ble_eq_true rfl) (fun σ2 τ2 g1 g2 g3 => ?_)
  have zlo3 : ∀ i, i < z2.1 → (kn_z5 (kn_zZ z2 (.inl (4, kn_dsS))) z2.1).2 i = z2.2 i := fun i hi => (kn_z5_lo rfl hi).trans (if_neg (by omega))
  have zst3 := kn_z5_st (z := kn_zZ z2 (.inl (4, kn_dsS))) (b := z2.1) rfl
  have zsz3 : (kn_z5 (kn_zZ z2 (.inl (4, kn_dsS))) z2.1).1 = z2.1 + 20 := rfl
  generalize kn_z5 (kn_zZ z2 (.inl (4, kn_dsS))) z2.1 = z3 at zlo3 zst3 zsz3 ⊢
  refine k_putfieldR (t9 := .object "KnockControl$State") dX6_init_23 hc_X6 (show 0 < z3.1 by omega) ((zlo3 0 (by omega)).trans zP1z) (show z2.1 < z3.1 by omega) 1 (by decide) wF_X6_16 rfl rfl rfl rfl (by decide +kernel) (fun _ => rfl) (fun _ => rfl) ?_
  rw [zP1n] at g1 g2 g3 zst3 ⊢
  have zP3 : ∀ i, i ≠ 0 → (kn_zP z3 0 5 ([some (.ref 1), some .null, some .null, some .null].set 1 (some (.ref 21)))).2 i = z3.2 i := fun i hi => if_neg hi
  have zP3z : (kn_zP z3 0 5 ([some (.ref 1), some .null, some .null, some .null].set 1 (some (.ref 21)))).2 0 = .inl (5, [some (.ref 1), some (.ref 21), some .null, some .null]) := rfl
  have zP3n : (kn_zP z3 0 5 ([some (.ref 1), some .null, some .null, some .null].set 1 (some (.ref 21)))).1 = 41 := by show z3.1 = 41; omega
  generalize kn_zP z3 0 5 ([some (.ref 1), some .null, some .null, some .null].set 1 (some (.ref 21))) = z4 at zP3 zP3z zP3n ⊢
  have st4 : kn_isSt z4 1 := kn_isSt_mono st2 (by omega) (fun i q1 q2 => (zP3 i (by omega)).trans (zlo3 i (by omega)))
  have tr4 : kn_isSt z4 21 := kn_isSt_mono zst3 (by omega) (fun i q1 q2 => zP3 i (by omega))
  -- the history
  refine k_aload_n 0 dX6_init_26 rfl rfl ?_
  rw [show c + 87 = (c + 86) + 1 by omega, show n + 1293 = (n + 1290) + 3 by omega]
  refine k_new dX6_init_27 hc_X2 wC_X6_19 wI_X2 wN_X2 kn_dX2 (fun r hr => by simp at hr) (v1 _ (by omega)) (v2 _ (by omega)) ?_
  rw [zP3n]
  refine k_dup dX6_init_30 rfl ?_
  have z5n : (kn_zZ z4 (.inl (1, [some .null, none, none]))).1 = 42 := by show z4.1 + 1 = 42; omega
  have z5e : (kn_zZ z4 (.inl (1, [some .null, none, none]))).2 41 = .inl (1, [some .null, none, none]) := if_pos zP3n.symm
  have z5l : ∀ i, i < 41 → (kn_zZ z4 (.inl (1, [some .null, none, none]))).2 i = z4.2 i := fun i hi => if_neg (by omega)
  generalize kn_zZ z4 (.inl (1, [some .null, none, none])) = z5 at z5n z5e z5l ⊢
  refine k_invI (As := []) (i := 41) (rest := [.ref 41, .ref 0]) (c1 := 0 + 80 + 1) (n1 := 0 + 1100 + 4) dX6_init_31 mm_X2_init wL_X6_21 ⟨by decide, by decide⟩ rfl rfl (Nat.le_of_ble_eq_true rfl) (by omega) (by omega) (v3 _ _ (by omega) (by omega)) (v2 _ (by omega)) ?_
  refine m_X2_init z5n z5e (fun σ3 τ3 z6 e1 e2 e3 e4 e5 e6 => ?_)
  show kn_Go X MX6_init 34 [(0, .ref 0)] [.ref 41, .ref 0] σ3 τ3 z6 (c + 86 - (0 + 80 + 1)) (n + 1290 - (0 + 1100 + 4)) Q
  have z60 : z6.2 0 = .inl (5, [some (.ref 1), some (.ref 21), some .null, some .null]) := (e3 0 (by omega)).trans ((z5l 0 (by omega)).trans zP3z)
  refine k_putfieldR (t9 := .object "KnockControl$History") dX6_init_34 hc_X6 (show 0 < z6.1 by omega) z60 (show 41 < z6.1 by omega) 2 (by decide) wF_X6_22 rfl rfl rfl rfl (by decide +kernel) (fun _ => rfl) (fun _ => rfl) ?_
  have zP6 : ∀ i, i ≠ 0 → (kn_zP z6 0 5 ([some (.ref 1), some (.ref 21), some .null, some .null].set 2 (some (.ref 41)))).2 i = z6.2 i := fun i hi => if_neg hi
  have zP6z : (kn_zP z6 0 5 ([some (.ref 1), some (.ref 21), some .null, some .null].set 2 (some (.ref 41)))).2 0 = .inl (5, [some (.ref 1), some (.ref 21), some (.ref 41), some .null]) := rfl
  have zP6n : (kn_zP z6 0 5 ([some (.ref 1), some (.ref 21), some .null, some .null].set 2 (some (.ref 41)))).1 = 123 := e1
  generalize kn_zP z6 0 5 ([some (.ref 1), some (.ref 21), some .null, some .null].set 2 (some (.ref 41))) = z7 at zP6 zP6z zP6n ⊢
  have st7 : kn_isSt z7 1 := kn_isSt_mono st4 (by omega) (fun i q1 q2 => (zP6 i (by omega)).trans ((e3 i (by omega)).trans (z5l i (by omega))))
  have tr7 : kn_isSt z7 21 := kn_isSt_mono tr4 (by omega) (fun i q1 q2 => (zP6 i (by omega)).trans ((e3 i (by omega)).trans (z5l i (by omega))))
  have hi7 : kn_isHi z7 41 := kn_isHi_mono e2 (by omega) (fun i q1 q2 => zP6 i (by omega))
  -- the text
  refine k_aload_n 0 dX6_init_37 rfl rfl ?_
  rw [show c + 86 - (0 + 80 + 1) = (c + 4) + 1 by omega, show n + 1290 - (0 + 1100 + 4) = (n + 182) + 4 by omega]
  refine k_new dX6_init_38 hc_X1 wC_X6_26 wI_X1 wN_X1 kn_dX1 (fun r hr => by simp at hr) (v1 _ (by omega)) (v2 _ (by omega)) ?_
  rw [zP6n]
  refine k_dup dX6_init_41 rfl ?_
  have z8n : (kn_zZ z7 (.inl (0, [some .null, some .null, none, none]))).1 = 124 := by show z7.1 + 1 = 124; omega
  have z8e : (kn_zZ z7 (.inl (0, [some .null, some .null, none, none]))).2 123 = .inl (0, [some .null, some .null, none, none]) := if_pos zP6n.symm
  have z8l : ∀ i, i < 123 → (kn_zZ z7 (.inl (0, [some .null, some .null, none, none]))).2 i = z7.2 i := fun i hi => if_neg (by omega)
  generalize kn_zZ z7 (.inl (0, [some .null, some .null, none, none])) = z8 at z8n z8e z8l ⊢
  refine k_invIN (As := []) (i := 123) (rest := [.ref 123, .ref 0]) (c1 := 0 + 1 + 1 + 1 + 1) (n1 := 0 + 60 + 1 + 120 + 1) dX6_init_42 mm_X1_init wNM_X6_28 ⟨by decide, by decide⟩ rfl rfl (Nat.le_of_ble_eq_true rfl) (by omega) (by omega) (v3 _ _ (by omega) (by omega)) (v2 _ (by omega)) ?_
  refine m_X1_init (by omega) z8e ?_
  show kn_Go X MX6_init 45 [(0, .ref 0)] [.ref 123, .ref 0] _ _ (kn_z1 z8 123) (c + 4 - (0 + 1 + 1 + 1 + 1)) (n + 182 - (0 + 60 + 1 + 120 + 1)) Q
  rw [z8n]
  have z9l : ∀ i, i < 123 → (kn_z1 z8 123).2 i = z8.2 i := fun i hi => kn_z1_lo z8n hi
  have z9t := kn_z1_tx z8n
  have z9n : (kn_z1 z8 123).1 = 128 := by show z8.1 + 2 + 2 = 128; omega
  generalize kn_z1 z8 123 = z9 at z9l z9t z9n ⊢
  have z90 : z9.2 0 = .inl (5, [some (.ref 1), some (.ref 21), some (.ref 41), some .null]) := (z9l 0 (by omega)).trans ((z8l 0 (by omega)).trans zP6z)
  refine k_putfieldR (t9 := .object "KnockControl$FiringText") dX6_init_45 hc_X6 (show 0 < z9.1 by omega) z90 (show 123 < z9.1 by omega) 3 (by decide) wF_X6_29 rfl rfl rfl rfl (by decide +kernel) (fun _ => rfl) (fun _ => rfl) ?_
  have zP9 : ∀ i, i ≠ 0 → (kn_zP z9 0 5 ([some (.ref 1), some (.ref 21), some (.ref 41), some .null].set 3 (some (.ref 123)))).2 i = z9.2 i := fun i hi => if_neg hi
  have zP9z : (kn_zP z9 0 5 ([some (.ref 1), some (.ref 21), some (.ref 41), some .null].set 3 (some (.ref 123)))).2 0 = .inl (5, [some (.ref 1), some (.ref 21), some (.ref 41), some (.ref 123)]) := rfl
  have zP9n : (kn_zP z9 0 5 ([some (.ref 1), some (.ref 21), some (.ref 41), some .null].set 3 (some (.ref 123)))).1 = 128 := z9n
  generalize kn_zP z9 0 5 ([some (.ref 1), some (.ref 21), some (.ref 41), some .null].set 3 (some (.ref 123))) = z10 at zP9 zP9z zP9n ⊢
  have zz : ∀ i, 0 < i → i < 123 → z10.2 i = z7.2 i := fun i q1 q2 => (zP9 i (by omega)).trans ((z9l i q2).trans (z8l i q2))
  refine k_vret dX6_init_48 rfl ?_
  have tx10 : kn_isTx z10 123 := by
    obtain ⟨t1, t2, t3⟩ := z9t
    exact ⟨⟨by omega, (zP9 123 (by decide)).trans t1.2⟩, kn_isRow_mono t2 (by omega) (zP9 _ (by decide)) (zP9 _ (by decide)), kn_isRow_mono t3 (by omega) (zP9 _ (by decide)) (zP9 _ (by decide))⟩
  have sN : ∀ (a : Nat) (k : Nat), a < 123 → kn_nS (kn_nS (kn_zS σ3 123) 124) (124 + 2) a k = σ3 a k := fun a k ha => by
    simp only [kn_nS, kn_zS]
    repeat rw [if_neg (by omega)]
  have s42 : ∀ a, a < 41 → σ3 a = kn_sI X σ2 21 a := fun a ha => by
    rw [e4 a (by omega)]
    funext k
    exact if_neg (by omega)
  refine hQ _ _ z10 zP9n ⟨⟨by omega, zP9z⟩, kn_isSt_mono st7 (by omega) (fun i q1 q2 => zz i (by omega) (by omega)), kn_isSt_mono tr7 (by omega) (fun i q1 q2 => zz i (by omega) (by omega)), kn_isHi_mono hi7 (by omega) (fun i q1 q2 => zz i (by omega) (by omega)), tx10⟩ ⟨σ1, f2, fun a q1 q2 => ?_⟩ ⟨?_, ?_⟩ (fun r hr => ?_) ?_
  · funext k
    rw [sN a k (by omega), s42 a (by omega), kn_sI_ne X σ2 (by omega), g1 a (by omega)]
    exact if_neg (by omega)
  · rw [sN 41 1 (by omega), e4 41 (by omega)]
    exact if_pos rfl
  · rw [sN 41 2 (by omega), e4 41 (by omega)]
    exact if_pos rfl
  · rw [sN _ 12 (by omega), sN _ 16 (by omega)]
    exact e5 r hr
  · rfl

