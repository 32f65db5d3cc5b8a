-- History's constructor
def kn_hl (j : Nat) : List Value := [if 0 < j then .ref 43 else .null, if 1 < j then .ref 63 else .null, if 2 < j then .ref 83 else .null, if 3 < j then .ref 103 else .null]
theorem kn_hl_set {j : Nat} (h : j < 4) : (kn_hl j).set j (.ref (43 + 20 * j)) = kn_hl (j + 1) := by
  have : j = 0 ∨ j = 1 ∨ j = 2 ∨ j = 3 := by omega
  rcases this with rfl | rfl | rfl | rfl <;> rfl
set_option maxRecDepth 100000 in
theorem kn_z5_lo {z : kn_Z} {b i : Nat} (hz : z.1 = b + 1) (h : i < b) : (kn_z5 z b).2 i = z.2 i := by
  show (if i = b then _ else _) = _
  rw [if_neg (by omega)]
  refine (kn_lZ_lo (show i < z.1 + 2 + 2 + 2 + 2 + 2 + 2 by omega)).trans ?_
  show (if i = b then _ else _) = _
  rw [if_neg (by omega)]
  refine (kn_nR_lo (show i < z.1 + 2 + 2 + 2 + 2 + 2 by omega)).trans ?_
  show (if i = b then _ else _) = _
  rw [if_neg (by omega)]
  refine (kn_nR_lo (show i < z.1 + 2 + 2 + 2 + 2 by omega)).trans ?_
  show (if i = b then _ else _) = _
  rw [if_neg (by omega)]
  refine (kn_nR_lo (show i < z.1 + 2 + 2 + 2 by omega)).trans ?_
  show (if i = b then _ else _) = _
  rw [if_neg (by omega)]
  refine (kn_nR_lo (show i < z.1 + 2 + 2 by omega)).trans ?_
  show (if i = b then _ else _) = _
  rw [if_neg (by omega)]
  refine (kn_nR_lo (show i < z.1 + 2 by omega)).trans ?_
  show (if i = b then _ else _) = _
  rw [if_neg (by omega)]
  exact kn_nR_lo (by omega)
theorem kn_isRow_mono {z z' : kn_Z} {i L : Nat} (h : kn_isRow z i L) (h1 : z.1 ≤ z'.1) (e0 : z'.2 i = z.2 i) (e1 : z'.2 (i + 1) = z.2 (i + 1)) : kn_isRow z' i L :=
  ⟨⟨Nat.lt_of_lt_of_le h.1.1 h1, e0.trans h.1.2⟩, ⟨Nat.lt_of_lt_of_le h.2.1 h1, e1.trans h.2.2⟩⟩
theorem kn_isSt_mono {z z' : kn_Z} {b : Nat} (h : kn_isSt z b) (h1 : z.1 ≤ z'.1) (h2 : ∀ i, b ≤ i → i < b + 20 → z'.2 i = z.2 i) : kn_isSt z' b := by
  obtain ⟨a0, a1, a2, a3, a4, a5, a6, a7⟩ := h
  obtain ⟨l0, l1, l2, l3⟩ := a7
  exact ⟨⟨Nat.lt_of_lt_of_le a0.1 h1, (h2 b (by omega) (by omega)).trans a0.2⟩, kn_isRow_mono a1 h1 (h2 _ (by omega) (by omega)) (h2 _ (by omega) (by omega)), kn_isRow_mono a2 h1 (h2 _ (by omega) (by omega)) (h2 _ (by omega) (by omega)), kn_isRow_mono a3 h1 (h2 _ (by omega) (by omega)) (h2 _ (by omega) (by omega)), kn_isRow_mono a4 h1 (h2 _ (by omega) (by omega)) (h2 _ (by omega) (by omega)), kn_isRow_mono a5 h1 (h2 _ (by omega) (by omega)) (h2 _ (by omega) (by omega)), kn_isRow_mono a6 h1 (h2 _ (by omega) (by omega)) (h2 _ (by omega) (by omega)),
    ⟨Nat.lt_of_lt_of_le l0.1 h1, (h2 _ (by omega) (by omega)).trans l0.2⟩, kn_isRow_mono l1 h1 (h2 _ (by omega) (by omega)) (h2 _ (by omega) (by omega)), kn_isRow_mono l2 h1 (h2 _ (by omega) (by omega)) (h2 _ (by omega) (by omega)), kn_isRow_mono l3 h1 (h2 _ (by omega) (by omega)) (h2 _ (by omega) (by omega))⟩
theorem kf_ini_ne (X : kn_X) (s : kn_S) {b a : Nat} (h : a ≠ b + 2) : ∀ k, kf_ini X s b k a = s a
  | 0 => rfl
  | k + 1 => by
    show kf_put (kf_ini X s b k) (b + 1 + 1) 8 _ _ a = s a
    rw [kf_put_ne _ _ _ _ (by omega), kf_ini_ne X s h k]
theorem kf_ini_at (X : kn_X) (s : kn_S) {b k : Nat} : ∀ m, k < m → m ≤ 8 → kf_ini X s b m (b + 2) k = kn_first k
  | 0, h, _ => absurd h (by omega)
  | m + 1, h, hm => by
    show kf_put (kf_ini X s b m) (b + 2) 8 (nI m) (kn_rv X 2 (nI m).toNatClampNeg) (b + 2) k = _
    rw [kf_put_nI _ _ (by decide) (by omega), nI_clamp (by omega)]
    by_cases q : k = m
    · subst q
      rw [kn_up_row]
      exact if_pos rfl
    · rw [kn_upk q]
      exact kf_ini_at X s m (by omega) (by omega)
theorem kn_sI_ne (X : kn_X) (s : kn_S) {b a : Nat} (h : a < b ∨ b + 20 ≤ a) : kn_sI X s b a = s a := by
  show kf_restart _ b 4 a = s a
  rw [kf_restart_ne _ _ h, kn_up_ne _ _ _ (by omega), kn_up_ne _ _ _ (by omega), kf_ini_ne X s (by omega)]
theorem kn_sI_01 (X : kn_X) (s : kn_S) (b : Nat) : kn_sI X s b b 12 = 0 ∧ kn_sI X s b b 16 = 0 := by
  refine ⟨?_, ?_⟩ <;> simp [kn_sI, kf_restart, kf_fill, kn_up]
set_option maxRecDepth 100000 in
set_option maxHeartbeats 4000000 in
theorem m_X2_loop {X : kn_X} {Q : kn_Q} {c n : Nat} : ∀ (r9 j : Nat) (σ : kn_S) (τ : kn_T) (z : kn_Z), j + r9 = 4 → z.1 = 43 + 20 * j → z.2 41 = .inl (1, [some (.ref 42), none, none]) → z.2 42 = .inr (.inr (kn_hl j)) → (∀ i, i < j → kn_isSt z (43 + 20 * i)) →
    (∀ (σ9 : kn_S) (τ9 : kn_T) (z9 : kn_Z), z9.1 = 123 → kn_isHi z9 41 → (∀ i, i < 41 → z9.2 i = z.2 i) → (∀ a, a < 43 + 20 * j → σ9 a = σ a) → (∀ r, j ≤ r → r < 4 → σ9 (43 + 20 * r) 12 = 0 ∧ σ9 (43 + 20 * r) 16 = 0) → (∀ a, a ≤ 42 → τ9 a = τ a) → Q (.inl none) σ9 τ9 z9) →
    kn_Go X MX2_init 14 [(1, .int (nI j)), (0, .ref 41)] [] σ τ z (c + 20 * r9) (n + 275 * r9) Q
  | 0, j, σ, τ, z, hj, h1, h41, h42, hst, hQ => by
    obtain rfl : j = 4 := by omega
    refine k_iload_n 1 dX2_init_14 rfl rfl ?_
    refine k_aload_n 0 dX2_init_15 rfl rfl ?_
    refine k_getfield dX2_init_16 hc_X2 (by omega) h41 0 (by decide) wF_X2_11 rfl ?_
    refine k_alenR dX2_init_19 (show 42 < z.1 by omega) h42 ?_
    refine k_icmpge 42 dX2_init_20 (by decide) (fun _ => ?_) (fun h20 => absurd (show nI 4 ≤ nI 4 from nI_le (Nat.le_refl _) (by decide)) h20)
    refine k_vret dX2_init_42 rfl ?_
    exact hQ σ τ z h1 ⟨⟨by omega, h41⟩, ⟨by omega, h42⟩, hst 0 (by decide), hst 1 (by decide), hst 2 (by decide), hst 3 (by decide)⟩ (fun _ _ => rfl) (fun _ _ => rfl) (fun r h1 h2 => absurd h1 (by omega)) (fun _ _ => rfl)
  | r9 + 1, j, σ, τ, z, hj, h1, h41, h42, hst, hQ => by
    have hj4 : j < 4 := by omega
    refine k_iload_n 1 dX2_init_14 rfl rfl ?_
    refine k_aload_n 0 dX2_init_15 rfl rfl ?_
    refine k_getfield dX2_init_16 hc_X2 (by omega) h41 0 (by decide) wF_X2_11 rfl ?_
    refine k_alenR dX2_init_19 (show 42 < z.1 by omega) h42 ?_
    refine k_icmpge 42 dX2_init_20 (by decide) (fun h20 => absurd h20 (show ¬ nI 4 ≤ nI j from nI_ge hj4 (by decide))) (fun _ => ?_)
    refine k_aload_n 0 dX2_init_23 rfl rfl ?_
    refine k_getfield dX2_init_24 hc_X2 (by omega) h41 0 (by decide) wF_X2_11 rfl ?_
    refine k_iload_n 1 dX2_init_27 rfl rfl ?_
    rw [show c + 20 * (r9 + 1) = c + 20 * r9 + 19 + 1 by omega, show n + 275 * (r9 + 1) = n + 275 * r9 + 258 + 17 by omega]
    have v1 : kn_vok z.1 [Value.int (nI j), Value.ref 42] := fun r hr => by
      have h9 : r = 42 := by simpa using hr
      rw [h9, h1]
      exact Nat.lt_of_lt_of_le (show 42 < 43 by decide) (Nat.le_add_right _ _)
    have v2 : kn_vok z.1 (([(1, Value.int (nI j)), (0, Value.ref 41)] : kn_L).map (fun q => q.2)) := fun r hr => by
      have h9 : r = 41 := by simpa using hr
      rw [h9, h1]
      exact Nat.lt_of_lt_of_le (show 41 < 43 by decide) (Nat.le_add_right _ _)
    refine k_newState dX2_init_28 dX2_init_31 dX2_init_32 wC_X2_9 wL_X2_17 ⟨by decide, by decide⟩ v1 v2 (Nat.le_of_ble_eq_true rfl) (fun σ9 τ9 f1 f2 f3 => ?_)
    have zlo : ∀ i, i < z.1 → (kn_z5 (kn_zZ z (.inl (4, kn_dsS))) z.1).2 i = z.2 i := fun i hi => (kn_z5_lo rfl hi).trans (if_neg (by omega))
    have zst := kn_z5_st (z := kn_zZ z (.inl (4, kn_dsS))) (b := z.1) rfl
    have zsz : (kn_z5 (kn_zZ z (.inl (4, kn_dsS))) z.1).1 = z.1 + 20 := rfl
    generalize kn_z5 (kn_zZ z (.inl (4, kn_dsS))) z.1 = z1 at zlo zst zsz ⊢
    refine k_aastore dX2_init_35 (show 42 < z1.1 by omega) ((zlo 42 (by omega)).trans h42) (show z.1 < z1.1 by omega) zst.1.2 (vp_in_nI (n := j) (show j < 4 from hj4) (show 4 < 2 ^ 31 by decide)) ?_
    refine k_iinc (nI (j + 1)) (lv' := [(1, _), (0, _)]) dX2_init_36 rfl (kn_inc j) (by decide) rfl ?_
    refine k_goto 14 dX2_init_39 (by decide) ?_
    rw [nI_clamp (by omega), h1, kn_hl_set hj4]
    have alo : ∀ i, i ≠ 42 → (kn_zA z1 42 (kn_hl (j + 1))).2 i = z1.2 i := fun i hi => if_neg hi
    refine m_X2_loop r9 (j + 1) _ _ (kn_zA z1 42 (kn_hl (j + 1))) (by omega) (show z1.1 = _ by omega) ((alo 41 (by decide)).trans ((zlo 41 (by omega)).trans h41)) rfl (fun i hi => ?_) (fun σ8 τ8 z8 g1 g2 g3 g4 g5 g6 => ?_)
    · by_cases q : i = j
      · rw [q, ← h1]
        exact kn_isSt_mono zst (Nat.le_refl _) (fun i h2 h3 => alo i (by omega))
      · exact kn_isSt_mono (hst i (by omega)) (show z.1 ≤ z1.1 by omega) (fun i h2 h3 => (alo i (by omega)).trans (zlo i (by omega)))
    · refine hQ σ8 τ8 z8 g1 g2 (fun i hi => (g3 i hi).trans ((alo i (by omega)).trans (zlo i (by omega)))) (fun a ha => ?_) (fun r h2 h3 => ?_) (fun a ha => ?_)
      · rw [g4 a (by omega), kn_sI_ne X σ9 (by omega), f1 a (by omega)]
        funext k
        exact if_neg (by omega)
      · by_cases q : r = j
        · rw [q, g4 _ (by omega)]
          exact kn_sI_01 X σ9 (43 + 20 * j)
        · exact g5 r (by omega) h3
      · rw [g6 a ha, f3 a (by omega)]
        funext k
        exact if_neg (by omega)
set_option maxRecDepth 100000 in
set_option maxHeartbeats 4000000 in
theorem m_X2_init {X : kn_X} {σ : kn_S} {τ : kn_T} {z : kn_Z} {c n : Nat} {Q : kn_Q} (h1 : z.1 = 42) (hz : z.2 41 = .inl (1, [some .null, none, none]))
    (hQ : ∀ (σ9 : kn_S) (τ9 : kn_T) (z9 : kn_Z), z9.1 = 123 → kn_isHi z9 41 → (∀ i, i < 41 → z9.2 i = z.2 i) → (∀ a, a < 42 → σ9 a = σ a) → (∀ r, r < 4 → σ9 (43 + 20 * r) 12 = 0 ∧ σ9 (43 + 20 * r) 16 = 0) → (∀ a, a < 42 → τ9 a = τ a) → Q (.inl none) σ9 τ9 z9) : kn_Ev X MX2_init [.ref 41] σ τ z (c + 80 + 1) (n + 1100 + 4) Q := by
  have v1 : ∀ N, 41 < N → kn_vok N [Value.ref 41] := fun N h r hr => by cases List.mem_singleton.mp hr; exact h
  have v2 : ∀ N, 41 < N → kn_vok N (([(0, Value.ref 41)] : kn_L).map (fun q => q.2)) := fun N h r hr => by cases List.mem_singleton.mp hr; exact h
  refine kn_entry (by decide +kernel) rfl (Nat.le_of_ble_eq_true rfl) ?_
  show kn_Go X MX2_init 0 [(0, .ref 41)] [] _ _ _ _ _ _
  refine k_aload_n 0 dX2_init_0 rfl rfl ?_
  refine k_objInit dX2_init_1 wL_X2_3 wOI (by decide) ?_
  refine k_aload_n 0 dX2_init_4 rfl rfl ?_
  refine k_iconst (4) dX2_init_5 (by decide) ?_
  refine k_anewarr (L := 4) dX2_init_6 wC_X2_9 (by decide) (by decide) (by decide) (v1 _ (by omega)) (v2 _ (by omega)) ?_
  refine k_putfieldR (t9 := .array (.object "KnockControl$State")) dX2_init_9 hc_X2 (show 41 < z.1 + 1 by omega) ((if_neg (show ¬ 41 = z.1 by omega)).trans hz) (show z.1 < z.1 + 1 by omega) 0 (by decide) wF_X2_11 rfl rfl rfl rfl (by decide +kernel) (fun _ => rfl) (fun _ => rfl) ?_
  refine k_iconst (0) dX2_init_12 (by decide) ?_
  refine k_istore_n 1 (lv' := [(1, _), (0, _)]) dX2_init_13 rfl (by decide) rfl ?_
  rw [h1]
  refine m_X2_loop 4 0 _ _ _ rfl (show z.1 + 1 = 43 by omega) rfl ?_ (fun i hi => absurd hi (by omega)) (fun σ8 τ8 z8 g1 g2 g3 g4 g5 g6 => ?_)
  · first | (simp [h1, kn_hl]; done) | (simp [h1, kn_hl]; rfl)
  · refine hQ σ8 τ8 z8 g1 g2 (fun i hi => (g3 i hi).trans ?_) (fun a ha => (g4 a (by omega)).trans ?_) (fun r h3 => g5 r (by omega) h3) (fun a ha => (g6 a (by omega)).trans ?_)
    · simp [show ¬ i = 41 by omega, show ¬ i = z.1 by omega]
    · funext k
      exact if_neg (by omega)
    · funext k
      exact if_neg (by omega)

