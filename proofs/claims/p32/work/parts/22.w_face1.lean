-- the face: settings, firings, what there is
def kn_isK (z : kn_Z) : Prop := (0 < z.1 ∧ z.2 0 = .inl (5, [some (.ref 1), some (.ref 21), some (.ref 41), some (.ref 123)])) ∧ kn_isSt z 1 ∧ kn_isSt z 21 ∧ kn_isHi z 41 ∧ kn_isTx z 123
/-- what holds of the class's data at every call: the cylinders, the rings, the text's length, the booleans -/
def kn_I (s : kn_S) (m o k len : Nat) : Prop := (s 1 7 = nI m ∧ 1 ≤ m ∧ m ≤ 8) ∧ (s 41 1 = nI o ∧ o < 4 ∧ s 41 2 = nI k ∧ k ≤ 4) ∧ (s 123 2 = nI len ∧ len ≤ 120) ∧ (∀ r, r < 4 → kn_01 (s (43 + 20 * r) 12) ∧ kn_01 (s (43 + 20 * r) 16)) ∧ kn_01 (s 1 12) ∧ kn_01 (s 1 16)
theorem kf_cpySt_ne (s : kn_S) {b b2 b' : Nat} (h : b' < b ∨ b + 20 ≤ b') : kf_cpySt s b b2 b' = s b' := by
  have e0 : b' ≠ b := by omega
  have e1 : b' ≠ b + 2 := by omega
  have e2 : b' ≠ b + 4 := by omega
  have e3 : b' ≠ b + 6 := by omega
  have e4 : b' ≠ b + 8 := by omega
  have e5 : b' ≠ b + 10 := by omega
  have e6 : b' ≠ b + 12 := by omega
  have e7 : b' ≠ b + 13 := by omega
  have e8 : b' ≠ b + 13 + 2 := by omega
  have e9 : b' ≠ b + 13 + 4 := by omega
  have e10 : b' ≠ b + 13 + 6 := by omega
  funext j
  simp only [kf_cpySt, kf_cs3, kf_cs2, kf_cs1, kf_logcpy, kf_cpy, kn_up, e0, e1, e2, e3, e4, e5, e6, e7, e8, e9, e10, false_and, if_false]
theorem kf_keepH_ne (s : kn_S) (o k : Nat) {b' : Nat} (h : b' < 41 ∨ 123 ≤ b') : kf_keepH s 41 1 o k b' = s b' := by
  have hr : (o + k) % 4 < 4 := by omega
  dsimp only [kf_keepH]
  split
  · rw [kn_up_ne _ _ _ (by omega), kf_cpySt_ne _ (by omega)]
  · rw [kn_up_ne _ _ _ (by omega), kf_cpySt_ne _ (by omega)]
theorem kf_learn_b (s : kn_S) (b m : Nat) (cell : Int32) : kf_learn s b m cell b = s b := by
  have hL : ∀ mean, kf_learnL s b cell mean b = s b := by
    intro mean
    unfold kf_learnL
    split
    · rfl
    split
    · rfl
    · dsimp only [kf_learnDn]
      rw [kf_note_ne _ _ _ _ (by omega) (by omega) (by omega) (by omega), kf_put_ne _ _ _ _ (by omega)]
  have hM : ∀ mean, kf_learnM s b m cell mean b = s b := by
    intro mean
    unfold kf_learnM
    split
    · exact hL mean
    split
    · exact hL mean
    · dsimp only [kf_learnUp]
      rw [kf_note_ne _ _ _ _ (by omega) (by omega) (by omega) (by omega), kf_mapA_ne _ _ _ (by omega), kf_put_ne _ _ _ _ (by omega)]
  unfold kf_learn
  split
  · rfl
  split
  · rfl
  split
  · exact hM _
  · rfl
theorem kf_treat_7 (s : kn_S) (b m : Nat) (x y e : Int32) : kf_treat s b m x y e b 7 = s b 7 := by
  have hF : ∀ t : kn_S, kf_trF t b b 7 = t b 7 := by
    intro t
    dsimp only [kf_trF]
    simp [kn_up]
  unfold kf_treat kf_trB
  split
  · rw [hF, kf_learn_b, kf_keep_b, kf_listen_b]
    exact kf_trA_b s b _ e (by decide) (by decide) (by decide) (by decide) (by decide)
  · rw [hF]
    exact kf_trA_b s b _ e (by decide) (by decide) (by decide) (by decide) (by decide)
theorem kf_mod_7 (s : kn_S) (b m : Nat) (x y w : Int32) : kf_mod s b m x y w b 7 = s b 7 := by
  unfold kf_mod
  rw [kf_treat_7]
  simp [kf_s15, kn_up]
def kf_drv (b m : Nat) (x y w : Int32) (s : kn_S) : Nat → Int32 × kn_S
  | 0 => (0, s)
  | j + 1 => ((if kf_mo (kf_drv b m x y w s j).2 b x y w = 1 then (kf_drv b m x y w s j).1 + 1 else (kf_drv b m x y w s j).1), kf_mod (kf_drv b m x y w s j).2 b m x y w)
theorem kf_drv_7 (b m : Nat) (x y w : Int32) (s : kn_S) : ∀ j, (kf_drv b m x y w s j).2 b 7 = s b 7
  | 0 => rfl
  | j + 1 => by
    show kf_mod (kf_drv b m x y w s j).2 b m x y w b 7 = s b 7
    rw [kf_mod_7, kf_drv_7 b m x y w s j]
def kf_isCyl (s : kn_S) (c : Int32) : Int32 := kf_within c 0 (s 1 7 - 1)
theorem kn_b01 {x : Int32} (h : kn_01 x) : narrow .boolean (.int x) = .int x := kn_nb h
theorem kf_within_nI {v hi : Int32} {n : Nat} (hh : hi = nI n) (hn : n < 2 ^ 31) (h : ¬ kf_within v 0 hi = 0) : ∃ j, j ≤ n ∧ v = nI j := by
  unfold kf_within at h
  by_cases h1 : v < 0
  · rw [if_pos h1] at h; exact absurd rfl h
  · rw [if_neg h1] at h
    by_cases h2 : hi < v
    · rw [if_pos h2] at h; exact absurd rfl h
    · obtain ⟨j, hj, rfl⟩ := nI_of h1
      rw [hh] at h2
      refine ⟨j, ?_, rfl⟩
      rcases Nat.lt_or_ge n j with q | q
      · exact absurd (nI_lt q hj) h2
      · exact q

set_option maxRecDepth 100000 in
set_option maxHeartbeats 4000000 in
theorem m_X6_isCylinder {X : kn_X} {σ : kn_S} {τ : kn_T} {z : kn_Z} {c n : Nat} {Q : kn_Q} {x : Int32} (hK : kn_isK z) (hQ : Q (.inl (some (.int (kf_isCyl σ x)))) σ τ z) : kn_Ev X MX6_isCylinder [.ref 0, .int x] σ τ z c n Q := by
  refine kn_entry (by decide +kernel) rfl (Nat.le_of_ble_eq_true rfl) ?_
  show kn_Go X MX6_isCylinder 0 [(0, .ref 0), (1, .int x)] [] _ _ _ _ _ _
  refine k_iload_n 1 dX6_isCylinder_0 rfl rfl ?_
  refine k_iconst (0) dX6_isCylinder_1 (by decide) ?_
  refine k_aload_n 0 dX6_isCylinder_2 rfl rfl ?_
  refine k_getfield dX6_isCylinder_3 hc_X6 hK.1.1 hK.1.2 0 (by decide) wF_X6_12 rfl ?_
  refine k_getfieldN dX6_isCylinder_6 hc_X5 hK.2.1.1.1 hK.2.1.1.2 7 (by decide) wNF_X6_176 rfl ?_
  refine k_iconst (1) dX6_isCylinder_9 (by decide) ?_
  refine k_isub dX6_isCylinder_10 ?_
  refine k_invS (As := [_, _, _]) dX6_isCylinder_11 mm_X6_within wL_X6_33 ⟨by decide, by decide⟩ rfl rfl (Nat.le_of_ble_eq_true rfl) (Nat.zero_le _) (Nat.zero_le _) (m_X6_within ⟨rfl, ?_⟩)
  refine k_iret dX6_isCylinder_14 rfl (by rcases kf_within_01 x 0 (σ 1 7 - 1) with h9 | h9 <;> (rw [h9]; rfl)) ?_
  exact hQ

set_option maxRecDepth 100000 in
set_option maxHeartbeats 4000000 in
theorem m_X6_begin {X : kn_X} {σ : kn_S} {τ : kn_T} {z : kn_Z} {c n : Nat} {Q : kn_Q} {m o k len : Nat} {x : Int32} (hK : kn_isK z) (hI : kn_I σ m o k len) (hQ : ¬ (kf_within x 2 8) = 0 → Q (.inl (some (.int (σ 1 13)))) (kf_restart (kf_keepH σ 41 1 o k) 1 x) τ z) (hN : (kf_within x 2 8) = 0 → Q (.inr "java/lang/IllegalArgumentException") σ τ z) : kn_Ev X MX6_begin [.ref 0, .int x] σ τ z (c + 1) (n + 6) Q := by
  obtain ⟨⟨hcy, hm⟩, ⟨ho, ho4, hk, hk4⟩, ⟨hlen, hl120⟩, hbs, hb1, hb2⟩ := hI
  refine kn_entry (by decide +kernel) rfl (Nat.le_of_ble_eq_true rfl) ?_
  show kn_Go X MX6_begin 0 [(0, .ref 0), (1, .int x)] [] _ _ _ _ _ _
  refine k_iload_n 1 dX6_begin_0 rfl rfl ?_
  refine k_iconst (2) dX6_begin_1 (by decide) ?_
  refine k_bipush (8) dX6_begin_2 (by decide) ?_
  refine k_invS (As := [_, _, _]) dX6_begin_4 mm_X6_within wL_X6_33 ⟨by decide, by decide⟩ rfl rfl (Nat.le_of_ble_eq_true rfl) (Nat.zero_le _) (Nat.zero_le _) (m_X6_within ⟨rfl, ?_⟩)
  refine k_invS (As := [_]) dX6_begin_7 mm_X6_demand wL_X6_37 ⟨by decide, by decide⟩ rfl rfl (Nat.le_of_ble_eq_true rfl) (c1 := 1) (n1 := 6) (by omega) (by omega) (m_X6_demand (fun hd => ⟨rfl, ?_⟩) (fun hd => ⟨rfl, k_thOut rfl (hN hd)⟩))
  refine k_aload_n 0 dX6_begin_10 rfl rfl ?_
  refine k_getfield dX6_begin_11 hc_X6 hK.1.1 hK.1.2 0 (by decide) wF_X6_12 rfl ?_
  refine k_getfieldN dX6_begin_14 hc_X5 hK.2.1.1.1 hK.2.1.1.2 13 (by decide) wNF_X6_41 rfl ?_
  refine k_istore_n 2 (lv' := [(2, _), (0, _), (1, _)]) dX6_begin_17 rfl (by decide) rfl ?_
  refine k_aload_n 0 dX6_begin_18 rfl rfl ?_
  refine k_getfield dX6_begin_19 hc_X6 hK.1.1 hK.1.2 2 (by decide) wF_X6_22 rfl ?_
  refine k_aload_n 0 dX6_begin_22 rfl rfl ?_
  refine k_getfield dX6_begin_23 hc_X6 hK.1.1 hK.1.2 0 (by decide) wF_X6_12 rfl ?_
  refine k_invV (As := [_]) dX6_begin_26 mm_X2_keep wL_X6_45 ⟨by decide, by decide⟩ hK.2.2.2.1.1.1 hK.2.2.2.1.1.2 rfl rfl (Nat.le_of_ble_eq_true rfl) (Nat.zero_le _) (Nat.zero_le _) (m_X2_keep hK.2.2.2.1 hK.2.1 hb1 hb2 ho ho4 hk hk4 ⟨rfl, ?_⟩)
  refine k_aload_n 0 dX6_begin_29 rfl rfl ?_
  refine k_getfield dX6_begin_30 hc_X6 hK.1.1 hK.1.2 0 (by decide) wF_X6_12 rfl ?_
  refine k_iload_n 1 dX6_begin_33 rfl rfl ?_
  refine k_invV (As := [_]) dX6_begin_34 mm_X5_restart wL_X6_49 ⟨by decide, by decide⟩ hK.2.1.1.1 hK.2.1.1.2 rfl rfl (Nat.le_of_ble_eq_true rfl) (Nat.zero_le _) (Nat.zero_le _) (m_X5_restart hK.2.1 ⟨rfl, ?_⟩)
  refine k_iload_n 2 dX6_begin_37 rfl rfl ?_
  refine k_iret dX6_begin_38 rfl (rfl) ?_
  exact hQ hd

set_option maxRecDepth 100000 in
set_option maxHeartbeats 4000000 in
theorem m_X6_set {X : kn_X} {σ : kn_S} {τ : kn_T} {z : kn_Z} {c n : Nat} {Q : kn_Q} {m o k len : Nat} {x y : Int32} (hK : kn_isK z) (hI : kn_I σ m o k len) (hQ : ¬ (kf_isSetting x y) = 0 → Q (.inl (some (.int (kf_at (σ 3) 8 x)))) (kf_put (kf_keepH σ 41 1 o k) 3 8 x y) τ z) (hN : (kf_isSetting x y) = 0 → Q (.inr "java/lang/IllegalArgumentException") σ τ z) : kn_Ev X MX6_set [.ref 0, .int x, .int y] σ τ z (c + 1) (n + 6) Q := by
  obtain ⟨⟨hcy, hm⟩, ⟨ho, ho4, hk, hk4⟩, ⟨hlen, hl120⟩, hbs, hb1, hb2⟩ := hI
  refine kn_entry (by decide +kernel) rfl (Nat.le_of_ble_eq_true rfl) ?_
  show kn_Go X MX6_set 0 [(0, .ref 0), (1, .int x), (2, .int y)] [] _ _ _ _ _ _
  refine k_iload_n 1 dX6_set_0 rfl rfl ?_
  refine k_iload_n 2 dX6_set_1 rfl rfl ?_
  refine k_invS (As := [_, _]) dX6_set_2 mm_X6_isSetting wL_X6_53 ⟨by decide, by decide⟩ rfl rfl (Nat.le_of_ble_eq_true rfl) (Nat.zero_le _) (Nat.zero_le _) (m_X6_isSetting ⟨rfl, ?_⟩)
  refine k_invS (As := [_]) dX6_set_5 mm_X6_demand wL_X6_37 ⟨by decide, by decide⟩ rfl rfl (Nat.le_of_ble_eq_true rfl) (c1 := 1) (n1 := 6) (by omega) (by omega) (m_X6_demand (fun hd => ⟨rfl, ?_⟩) (fun hd => ⟨rfl, k_thOut rfl (hN hd)⟩))
  refine k_aload_n 0 dX6_set_8 rfl rfl ?_
  refine k_getfield dX6_set_9 hc_X6 hK.1.1 hK.1.2 0 (by decide) wF_X6_12 rfl ?_
  refine k_getfieldN dX6_set_12 hc_X5 hK.2.1.1.1 hK.2.1.1.2 0 (by decide) wNF_X6_57 rfl ?_
  refine k_iload_n 1 dX6_set_15 rfl rfl ?_
  refine k_invV (As := [_]) dX6_set_16 mm_X4_at wL_X6_61 ⟨by decide, by decide⟩ hK.2.1.2.1.1.1 hK.2.1.2.1.1.2 rfl rfl (Nat.le_of_ble_eq_true rfl) (Nat.zero_le _) (Nat.zero_le _) (m_X4_at hK.2.1.2.1 (Nat.le_of_ble_eq_true rfl) ⟨rfl, ?_⟩)
  refine k_istore_n 3 (lv' := [(3, _), (0, _), (1, _), (2, _)]) dX6_set_19 rfl (by decide) rfl ?_
  refine k_aload_n 0 dX6_set_20 rfl rfl ?_
  refine k_getfield dX6_set_21 hc_X6 hK.1.1 hK.1.2 2 (by decide) wF_X6_22 rfl ?_
  refine k_aload_n 0 dX6_set_24 rfl rfl ?_
  refine k_getfield dX6_set_25 hc_X6 hK.1.1 hK.1.2 0 (by decide) wF_X6_12 rfl ?_
  refine k_invV (As := [_]) dX6_set_28 mm_X2_keep wL_X6_45 ⟨by decide, by decide⟩ hK.2.2.2.1.1.1 hK.2.2.2.1.1.2 rfl rfl (Nat.le_of_ble_eq_true rfl) (Nat.zero_le _) (Nat.zero_le _) (m_X2_keep hK.2.2.2.1 hK.2.1 hb1 hb2 ho ho4 hk hk4 ⟨rfl, ?_⟩)
  refine k_aload_n 0 dX6_set_31 rfl rfl ?_
  refine k_getfield dX6_set_32 hc_X6 hK.1.1 hK.1.2 0 (by decide) wF_X6_12 rfl ?_
  refine k_getfieldN dX6_set_35 hc_X5 hK.2.1.1.1 hK.2.1.1.2 0 (by decide) wNF_X6_57 rfl ?_
  refine k_iload_n 1 dX6_set_38 rfl rfl ?_
  refine k_iload_n 2 dX6_set_39 rfl rfl ?_
  refine k_invV (As := [_, _]) dX6_set_40 mm_X4_put wL_X6_67 ⟨by decide, by decide⟩ hK.2.1.2.1.1.1 hK.2.1.2.1.1.2 rfl rfl (Nat.le_of_ble_eq_true rfl) (Nat.zero_le _) (Nat.zero_le _) (m_X4_put hK.2.1.2.1 (Nat.le_of_ble_eq_true rfl) ⟨rfl, ?_⟩)
  refine k_iload_n 3 dX6_set_43 rfl rfl ?_
  refine k_iret dX6_set_44 rfl (rfl) ?_
  exact hQ hd

set_option maxRecDepth 100000 in
set_option maxHeartbeats 4000000 in
theorem m_X6_value {X : kn_X} {σ : kn_S} {τ : kn_T} {z : kn_Z} {c n : Nat} {Q : kn_Q} {x : Int32} (hK : kn_isK z) (hQ : ¬ (kf_within x 0 8) = 0 → Q (.inl (some (.int (kf_setOr σ 1 x)))) σ τ z) (hN : (kf_within x 0 8) = 0 → Q (.inr "java/lang/IllegalArgumentException") σ τ z) : kn_Ev X MX6_value [.ref 0, .int x] σ τ z (c + 1) (n + 6) Q := by
  refine kn_entry (by decide +kernel) rfl (Nat.le_of_ble_eq_true rfl) ?_
  show kn_Go X MX6_value 0 [(0, .ref 0), (1, .int x)] [] _ _ _ _ _ _
  refine k_iload_n 1 dX6_value_0 rfl rfl ?_
  refine k_iconst (0) dX6_value_1 (by decide) ?_
  refine k_bipush (8) dX6_value_2 (by decide) ?_
  refine k_invS (As := [_, _, _]) dX6_value_4 mm_X6_within wL_X6_33 ⟨by decide, by decide⟩ rfl rfl (Nat.le_of_ble_eq_true rfl) (Nat.zero_le _) (Nat.zero_le _) (m_X6_within ⟨rfl, ?_⟩)
  refine k_invS (As := [_]) dX6_value_7 mm_X6_demand wL_X6_37 ⟨by decide, by decide⟩ rfl rfl (Nat.le_of_ble_eq_true rfl) (c1 := 1) (n1 := 6) (by omega) (by omega) (m_X6_demand (fun hd => ⟨rfl, ?_⟩) (fun hd => ⟨rfl, k_thOut rfl (hN hd)⟩))
  refine k_aload_n 0 dX6_value_10 rfl rfl ?_
  refine k_getfield dX6_value_11 hc_X6 hK.1.1 hK.1.2 0 (by decide) wF_X6_12 rfl ?_
  refine k_iload_n 1 dX6_value_14 rfl rfl ?_
  refine k_invV (As := [_]) dX6_value_15 mm_X5_settingOrCylinders wL_X6_71 ⟨by decide, by decide⟩ hK.2.1.1.1 hK.2.1.1.2 rfl rfl (Nat.le_of_ble_eq_true rfl) (Nat.zero_le _) (Nat.zero_le _) (m_X5_settingOrCylinders hK.2.1 ⟨rfl, ?_⟩)
  refine k_iret dX6_value_18 rfl (rfl) ?_
  exact hQ hd

set_option maxRecDepth 100000 in
set_option maxHeartbeats 4000000 in
theorem m_X6_teach {X : kn_X} {σ : kn_S} {τ : kn_T} {z : kn_Z} {c n : Nat} {Q : kn_Q} {m o k len : Nat} {x y w : Int32} (hK : kn_isK z) (hI : kn_I σ m o k len) (hQ : ¬ (kf_isCell x y) = 0 → ¬ (kf_within w 0 100) = 0 → Q (.inl (some (.int (kf_at (σ 13) 24 (4 * x + y))))) (kf_put (kf_keepH σ 41 1 o k) 13 24 (4 * x + y) w) τ z) (hNp : (kf_isCell x y) = 0 → Q (.inr "java/lang/IndexOutOfBoundsException") σ τ z) (hN : ¬ (kf_isCell x y) = 0 → (kf_within w 0 100) = 0 → Q (.inr "java/lang/IllegalArgumentException") σ τ z) : kn_Ev X MX6_teach [.ref 0, .int x, .int y, .int w] σ τ z (c + 2) (n + 12) Q := by
  obtain ⟨⟨hcy, hm⟩, ⟨ho, ho4, hk, hk4⟩, ⟨hlen, hl120⟩, hbs, hb1, hb2⟩ := hI
  refine kn_entry (by decide +kernel) rfl (Nat.le_of_ble_eq_true rfl) ?_
  show kn_Go X MX6_teach 0 [(0, .ref 0), (1, .int x), (2, .int y), (3, .int w)] [] _ _ _ _ _ _
  refine k_iload_n 1 dX6_teach_0 rfl rfl ?_
  refine k_iload_n 2 dX6_teach_1 rfl rfl ?_
  refine k_invS (As := [_, _]) dX6_teach_2 mm_X6_isCell wL_X6_74 ⟨by decide, by decide⟩ rfl rfl (Nat.le_of_ble_eq_true rfl) (Nat.zero_le _) (Nat.zero_le _) (m_X6_isCell ⟨rfl, ?_⟩)
  refine k_invS (As := [_]) dX6_teach_5 mm_X6_demandPlace wL_X6_77 ⟨by decide, by decide⟩ rfl rfl (Nat.le_of_ble_eq_true rfl) (c1 := 1) (n1 := 6) (by omega) (by omega) (m_X6_demandPlace (fun hp => ⟨rfl, ?_⟩) (fun hp => ⟨rfl, k_thOut rfl (hNp hp)⟩))
  refine k_iload_n 3 dX6_teach_8 rfl rfl ?_
  refine k_iconst (0) dX6_teach_9 (by decide) ?_
  refine k_bipush (100) dX6_teach_10 (by decide) ?_
  refine k_invS (As := [_, _, _]) dX6_teach_12 mm_X6_within wL_X6_33 ⟨by decide, by decide⟩ rfl rfl (Nat.le_of_ble_eq_true rfl) (Nat.zero_le _) (Nat.zero_le _) (m_X6_within ⟨rfl, ?_⟩)
  refine k_invS (As := [_]) dX6_teach_15 mm_X6_demand wL_X6_37 ⟨by decide, by decide⟩ rfl rfl (Nat.le_of_ble_eq_true rfl) (c1 := 1) (n1 := 6) (by omega) (by omega) (m_X6_demand (fun hd => ⟨rfl, ?_⟩) (fun hd => ⟨rfl, k_thOut rfl (hN hp hd)⟩))
  refine k_iconst (4) dX6_teach_18 (by decide) ?_
  refine k_iload_n 1 dX6_teach_19 rfl rfl ?_
  refine k_imul dX6_teach_20 ?_
  refine k_iload_n 2 dX6_teach_21 rfl rfl ?_
  refine k_iadd dX6_teach_22 ?_
  refine k_istore (lv' := [(4, _), (0, _), (1, _), (2, _), (3, _)]) dX6_teach_23 (by decide) rfl ?_
  refine k_aload_n 0 dX6_teach_25 rfl rfl ?_
  refine k_getfield dX6_teach_26 hc_X6 hK.1.1 hK.1.2 0 (by decide) wF_X6_12 rfl ?_
  refine k_getfieldN dX6_teach_29 hc_X5 hK.2.1.1.1 hK.2.1.1.2 5 (by decide) wNF_X6_80 rfl ?_
  refine k_iload dX6_teach_32 rfl ?_
  refine k_invV (As := [_]) dX6_teach_34 mm_X4_at wL_X6_61 ⟨by decide, by decide⟩ hK.2.1.2.2.2.2.2.2.1.1.1 hK.2.1.2.2.2.2.2.2.1.1.2 rfl rfl (Nat.le_of_ble_eq_true rfl) (Nat.zero_le _) (Nat.zero_le _) (m_X4_at hK.2.1.2.2.2.2.2.2.1 (Nat.le_of_ble_eq_true rfl) ⟨rfl, ?_⟩)
  refine k_istore (lv' := [(5, _), (4, _), (0, _), (1, _), (2, _), (3, _)]) dX6_teach_37 (by decide) rfl ?_
  refine k_aload_n 0 dX6_teach_39 rfl rfl ?_
  refine k_getfield dX6_teach_40 hc_X6 hK.1.1 hK.1.2 2 (by decide) wF_X6_22 rfl ?_
  refine k_aload_n 0 dX6_teach_43 rfl rfl ?_
  refine k_getfield dX6_teach_44 hc_X6 hK.1.1 hK.1.2 0 (by decide) wF_X6_12 rfl ?_
  refine k_invV (As := [_]) dX6_teach_47 mm_X2_keep wL_X6_45 ⟨by decide, by decide⟩ hK.2.2.2.1.1.1 hK.2.2.2.1.1.2 rfl rfl (Nat.le_of_ble_eq_true rfl) (Nat.zero_le _) (Nat.zero_le _) (m_X2_keep hK.2.2.2.1 hK.2.1 hb1 hb2 ho ho4 hk hk4 ⟨rfl, ?_⟩)
  refine k_aload_n 0 dX6_teach_50 rfl rfl ?_
  refine k_getfield dX6_teach_51 hc_X6 hK.1.1 hK.1.2 0 (by decide) wF_X6_12 rfl ?_
  refine k_getfieldN dX6_teach_54 hc_X5 hK.2.1.1.1 hK.2.1.1.2 5 (by decide) wNF_X6_80 rfl ?_
  refine k_iload dX6_teach_57 rfl ?_
  refine k_iload_n 3 dX6_teach_59 rfl rfl ?_
  refine k_invV (As := [_, _]) dX6_teach_60 mm_X4_put wL_X6_67 ⟨by decide, by decide⟩ hK.2.1.2.2.2.2.2.2.1.1.1 hK.2.1.2.2.2.2.2.2.1.1.2 rfl rfl (Nat.le_of_ble_eq_true rfl) (Nat.zero_le _) (Nat.zero_le _) (m_X4_put hK.2.1.2.2.2.2.2.2.1 (Nat.le_of_ble_eq_true rfl) ⟨rfl, ?_⟩)
  refine k_iload dX6_teach_63 rfl ?_
  refine k_iret dX6_teach_65 rfl (rfl) ?_
  exact hQ hp hd

set_option maxRecDepth 100000 in
set_option maxHeartbeats 4000000 in
theorem m_X6_breakSensor {X : kn_X} {σ : kn_S} {τ : kn_T} {z : kn_Z} {c n : Nat} {Q : kn_Q} {m o k len : Nat} {x : Int32} (hK : kn_isK z) (hI : kn_I σ m o k len) (hx : kn_01 x) (hQ : Q (.inl (some (.int (σ 1 16)))) (kn_up (kf_keepH σ 41 1 o k) 1 16 x) τ z) : kn_Ev X MX6_breakSensor [.ref 0, .int x] σ τ z c n Q := by
  obtain ⟨⟨hcy, hm⟩, ⟨ho, ho4, hk, hk4⟩, ⟨hlen, hl120⟩, hbs, hb1, hb2⟩ := hI
  refine kn_entry (by decide +kernel) rfl (Nat.le_of_ble_eq_true rfl) ?_
  show kn_Go X MX6_breakSensor 0 [(0, .ref 0), (1, .int x)] [] _ _ _ _ _ _
  refine k_aload_n 0 dX6_breakSensor_0 rfl rfl ?_
  refine k_getfield dX6_breakSensor_1 hc_X6 hK.1.1 hK.1.2 0 (by decide) wF_X6_12 rfl ?_
  refine k_getfieldN dX6_breakSensor_4 hc_X5 hK.2.1.1.1 hK.2.1.1.2 16 (by decide) wNF_X6_83 rfl ?_
  refine k_istore_n 2 (lv' := [(2, _), (0, _), (1, _)]) dX6_breakSensor_7 rfl (by decide) rfl ?_
  refine k_aload_n 0 dX6_breakSensor_8 rfl rfl ?_
  refine k_getfield dX6_breakSensor_9 hc_X6 hK.1.1 hK.1.2 2 (by decide) wF_X6_22 rfl ?_
  refine k_aload_n 0 dX6_breakSensor_12 rfl rfl ?_
  refine k_getfield dX6_breakSensor_13 hc_X6 hK.1.1 hK.1.2 0 (by decide) wF_X6_12 rfl ?_
  refine k_invV (As := [_]) dX6_breakSensor_16 mm_X2_keep wL_X6_45 ⟨by decide, by decide⟩ hK.2.2.2.1.1.1 hK.2.2.2.1.1.2 rfl rfl (Nat.le_of_ble_eq_true rfl) (Nat.zero_le _) (Nat.zero_le _) (m_X2_keep hK.2.2.2.1 hK.2.1 hb1 hb2 ho ho4 hk hk4 ⟨rfl, ?_⟩)
  refine k_aload_n 0 dX6_breakSensor_19 rfl rfl ?_
  refine k_getfield dX6_breakSensor_20 hc_X6 hK.1.1 hK.1.2 0 (by decide) wF_X6_12 rfl ?_
  refine k_iload_n 1 dX6_breakSensor_23 rfl rfl ?_
  refine k_putfieldN dX6_breakSensor_24 hc_X5 hK.2.1.1.1 hK.2.1.1.2 16 (by decide) wNF_X6_83 rfl rfl (t9 := .boolean) (by decide +kernel) (kn_nb hx) (kn_fb hx) ?_
  refine k_iload_n 2 dX6_breakSensor_27 rfl rfl ?_
  refine k_iret dX6_breakSensor_28 rfl (kn_nb hb2) ?_
  exact hQ

set_option maxRecDepth 100000 in
set_option maxHeartbeats 4000000 in
theorem m_X6_seed {X : kn_X} {σ : kn_S} {τ : kn_T} {z : kn_Z} {c n : Nat} {Q : kn_Q} {m o k len : Nat} {x : Int32} (hK : kn_isK z) (hI : kn_I σ m o k len) (hQ : ¬ (kf_within x 0 999999) = 0 → Q (.inl (some (.int (σ 1 15)))) (kn_up (kf_keepH σ 41 1 o k) 1 15 x) τ z) (hN : (kf_within x 0 999999) = 0 → Q (.inr "java/lang/IllegalArgumentException") σ τ z) : kn_Ev X MX6_seed [.ref 0, .int x] σ τ z (c + 1) (n + 6) Q := by
  obtain ⟨⟨hcy, hm⟩, ⟨ho, ho4, hk, hk4⟩, ⟨hlen, hl120⟩, hbs, hb1, hb2⟩ := hI
  refine kn_entry (by decide +kernel) rfl (Nat.le_of_ble_eq_true rfl) ?_
  show kn_Go X MX6_seed 0 [(0, .ref 0), (1, .int x)] [] _ _ _ _ _ _
  refine k_iload_n 1 dX6_seed_0 rfl rfl ?_
  refine k_iconst (0) dX6_seed_1 (by decide) ?_
  refine k_ldc dX6_seed_2 wK_X6_87 ?_
  refine k_invS (As := [_, _, _]) dX6_seed_4 mm_X6_within wL_X6_33 ⟨by decide, by decide⟩ rfl rfl (Nat.le_of_ble_eq_true rfl) (Nat.zero_le _) (Nat.zero_le _) (m_X6_within ⟨rfl, ?_⟩)
  refine k_invS (As := [_]) dX6_seed_7 mm_X6_demand wL_X6_37 ⟨by decide, by decide⟩ rfl rfl (Nat.le_of_ble_eq_true rfl) (c1 := 1) (n1 := 6) (by omega) (by omega) (m_X6_demand (fun hd => ⟨rfl, ?_⟩) (fun hd => ⟨rfl, k_thOut rfl (hN hd)⟩))
  refine k_aload_n 0 dX6_seed_10 rfl rfl ?_
  refine k_getfield dX6_seed_11 hc_X6 hK.1.1 hK.1.2 0 (by decide) wF_X6_12 rfl ?_
  refine k_getfieldN dX6_seed_14 hc_X5 hK.2.1.1.1 hK.2.1.1.2 15 (by decide) wNF_X6_88 rfl ?_
  refine k_istore_n 2 (lv' := [(2, _), (0, _), (1, _)]) dX6_seed_17 rfl (by decide) rfl ?_
  refine k_aload_n 0 dX6_seed_18 rfl rfl ?_
  refine k_getfield dX6_seed_19 hc_X6 hK.1.1 hK.1.2 2 (by decide) wF_X6_22 rfl ?_
  refine k_aload_n 0 dX6_seed_22 rfl rfl ?_
  refine k_getfield dX6_seed_23 hc_X6 hK.1.1 hK.1.2 0 (by decide) wF_X6_12 rfl ?_
  refine k_invV (As := [_]) dX6_seed_26 mm_X2_keep wL_X6_45 ⟨by decide, by decide⟩ hK.2.2.2.1.1.1 hK.2.2.2.1.1.2 rfl rfl (Nat.le_of_ble_eq_true rfl) (Nat.zero_le _) (Nat.zero_le _) (m_X2_keep hK.2.2.2.1 hK.2.1 hb1 hb2 ho ho4 hk hk4 ⟨rfl, ?_⟩)
  refine k_aload_n 0 dX6_seed_29 rfl rfl ?_
  refine k_getfield dX6_seed_30 hc_X6 hK.1.1 hK.1.2 0 (by decide) wF_X6_12 rfl ?_
  refine k_iload_n 1 dX6_seed_33 rfl rfl ?_
  refine k_putfieldN dX6_seed_34 hc_X5 hK.2.1.1.1 hK.2.1.1.2 15 (by decide) wNF_X6_88 rfl rfl (t9 := .int) (by decide +kernel) rfl rfl ?_
  refine k_iload_n 2 dX6_seed_37 rfl rfl ?_
  refine k_iret dX6_seed_38 rfl (rfl) ?_
  exact hQ hd

set_option maxRecDepth 100000 in
set_option maxHeartbeats 4000000 in
theorem m_X6_fire {X : kn_X} {σ : kn_S} {τ : kn_T} {z : kn_Z} {c n : Nat} {Q : kn_Q} {m o k len : Nat} {x y w : Int32} (hK : kn_isK z) (hI : kn_I σ m o k len) (hQ : ¬ (kf_isFir x y w) = 0 → Q (.inl (some (.int (kf_to (kf_keepH σ 41 1 o k) 1 x y w)))) (kf_treat (kf_keepH σ 41 1 o k) 1 m x y w) τ z) (hN : (kf_isFir x y w) = 0 → Q (.inr "java/lang/IllegalArgumentException") σ τ z) : kn_Ev X MX6_fire [.ref 0, .int x, .int y, .int w] σ τ z (c + 1) (n + 6) Q := by
  obtain ⟨⟨hcy, hm⟩, ⟨ho, ho4, hk, hk4⟩, ⟨hlen, hl120⟩, hbs, hb1, hb2⟩ := hI
  refine kn_entry (by decide +kernel) rfl (Nat.le_of_ble_eq_true rfl) ?_
  show kn_Go X MX6_fire 0 [(0, .ref 0), (1, .int x), (2, .int y), (3, .int w)] [] _ _ _ _ _ _
  refine k_iload_n 1 dX6_fire_0 rfl rfl ?_
  refine k_iload_n 2 dX6_fire_1 rfl rfl ?_
  refine k_iload_n 3 dX6_fire_2 rfl rfl ?_
  refine k_invS (As := [_, _, _]) dX6_fire_3 mm_X6_isFiring wL_X6_91 ⟨by decide, by decide⟩ rfl rfl (Nat.le_of_ble_eq_true rfl) (Nat.zero_le _) (Nat.zero_le _) (m_X6_isFiring ⟨rfl, ?_⟩)
  refine k_invS (As := [_]) dX6_fire_6 mm_X6_demand wL_X6_37 ⟨by decide, by decide⟩ rfl rfl (Nat.le_of_ble_eq_true rfl) (c1 := 1) (n1 := 6) (by omega) (by omega) (m_X6_demand (fun hd => ⟨rfl, ?_⟩) (fun hd => ⟨rfl, k_thOut rfl (hN hd)⟩))
  refine k_aload_n 0 dX6_fire_9 rfl rfl ?_
  refine k_getfield dX6_fire_10 hc_X6 hK.1.1 hK.1.2 2 (by decide) wF_X6_22 rfl ?_
  refine k_aload_n 0 dX6_fire_13 rfl rfl ?_
  refine k_getfield dX6_fire_14 hc_X6 hK.1.1 hK.1.2 0 (by decide) wF_X6_12 rfl ?_
  refine k_invV (As := [_]) dX6_fire_17 mm_X2_keep wL_X6_45 ⟨by decide, by decide⟩ hK.2.2.2.1.1.1 hK.2.2.2.1.1.2 rfl rfl (Nat.le_of_ble_eq_true rfl) (Nat.zero_le _) (Nat.zero_le _) (m_X2_keep hK.2.2.2.1 hK.2.1 hb1 hb2 ho ho4 hk hk4 ⟨rfl, ?_⟩)
  refine k_aload_n 0 dX6_fire_20 rfl rfl ?_
  refine k_getfield dX6_fire_21 hc_X6 hK.1.1 hK.1.2 0 (by decide) wF_X6_12 rfl ?_
  refine k_iload_n 1 dX6_fire_24 rfl rfl ?_
  refine k_iload_n 2 dX6_fire_25 rfl rfl ?_
  refine k_iload_n 3 dX6_fire_26 rfl rfl ?_
  refine k_invV (As := [_, _, _]) dX6_fire_27 mm_X5_treat wL_X6_94 ⟨by decide, by decide⟩ hK.2.1.1.1 hK.2.1.1.2 rfl rfl (Nat.le_of_ble_eq_true rfl) (Nat.zero_le _) (Nat.zero_le _) (m_X5_treat (m := m) hK.2.1 (by rw [kf_keepH_ne _ _ _ (by omega)]; exact hcy) hm ⟨rfl, ?_⟩)
  refine k_iret dX6_fire_30 rfl (rfl) ?_
  exact hQ hd

set_option maxRecDepth 100000 in
set_option maxHeartbeats 4000000 in
theorem m_X6_drive {X : kn_X} {σ : kn_S} {τ : kn_T} {z : kn_Z} {c n : Nat} {Q : kn_Q} {m o k len : Nat} {x y w v : Int32} (hK : kn_isK z) (hI : kn_I σ m o k len) (hQ : ∀ j : Nat, v = nI j → j ≤ 1000 → ¬ (kf_and (kf_isDrv x y w) (kf_within v 0 1000)) = 0 → Q (.inl (some (.int (kf_drv 1 m x y w (kf_keepH σ 41 1 o k) j).1))) (kf_drv 1 m x y w (kf_keepH σ 41 1 o k) j).2 τ z) (hN : (kf_and (kf_isDrv x y w) (kf_within v 0 1000)) = 0 → Q (.inr "java/lang/IllegalArgumentException") σ τ z) : kn_Ev X MX6_drive [.ref 0, .int x, .int y, .int w, .int v] σ τ z (c + 1) (n + 6) Q := by
  obtain ⟨⟨hcy, hm⟩, ⟨ho, ho4, hk, hk4⟩, ⟨hlen, hl120⟩, hbs, hb1, hb2⟩ := hI
  refine kn_entry (by decide +kernel) rfl (Nat.le_of_ble_eq_true rfl) ?_
  show kn_Go X MX6_drive 0 [(0, .ref 0), (1, .int x), (2, .int y), (3, .int w), (4, .int v)] [] _ _ _ _ _ _
  have lp46 : ∀ r9 : Nat, ∀ (vv jj : Nat), vv ≤ 1000 → (Q (.inl (some (.int (kf_drv 1 m x y w (kf_keepH σ 41 1 o k) vv).1))) (kf_drv 1 m x y w (kf_keepH σ 41 1 o k) vv).2 τ z) → jj ≤ vv → vv + 1 ≤ jj + r9 → kn_Go X MX6_drive 46 [(6, .int (nI jj)), (5, .int (kf_drv 1 m x y w (kf_keepH σ 41 1 o k) jj).1), (0, .ref 0), (1, .int x), (2, .int y), (3, .int w), (4, .int (nI vv))] [] (kf_drv 1 m x y w (kf_keepH σ 41 1 o k) jj).2 τ z c n Q := by
    intro r9
    induction r9 with
    | zero =>
      intro vv jj hv hQ hj0 hr
      exact absurd hr (by omega)
    | succ r9 ih =>
      intro vv jj hv hQ hj0 hr
      refine k_iload dX6_drive_46 rfl ?_
      refine k_iload dX6_drive_48 rfl ?_
      refine k_icmpge 76 dX6_drive_50 (by decide) (fun h50 => ?_) (fun h50 => ?_)
      · have hjj : jj = vv := by have := (nI_leI (by omega) (by omega)).mp h50; omega
        subst hjj
        refine k_iload dX6_drive_76 rfl ?_
        refine k_iret dX6_drive_78 rfl (rfl) ?_
        exact hQ
      · have hlt : jj < vv := by rcases Nat.lt_or_ge jj vv with q | q; exact q; exact absurd (nI_le q (by omega)) h50
        refine k_aload_n 0 dX6_drive_53 rfl rfl ?_
        refine k_getfield dX6_drive_54 hc_X6 hK.1.1 hK.1.2 0 (by decide) wF_X6_12 rfl ?_
        refine k_iload_n 1 dX6_drive_57 rfl rfl ?_
        refine k_iload_n 2 dX6_drive_58 rfl rfl ?_
        refine k_iload_n 3 dX6_drive_59 rfl rfl ?_
        refine k_invV (As := [_, _, _]) dX6_drive_60 mm_X5_treatModelled wL_X6_101 ⟨by decide, by decide⟩ hK.2.1.1.1 hK.2.1.1.2 rfl rfl (Nat.le_of_ble_eq_true rfl) (Nat.zero_le _) (Nat.zero_le _) (m_X5_treatModelled (m := m) hK.2.1 (by rw [kf_drv_7, kf_keepH_ne _ _ _ (by omega)]; exact hcy) hm ⟨rfl, ?_⟩)
        refine k_iconst (1) dX6_drive_63 (by decide) ?_
        refine k_icmpne 70 dX6_drive_64 (by decide) (fun h64 => ?_) (fun h64 => ?_)
        · refine k_iinc (nI (jj + 1)) (lv' := [(6, _), (5, _), (0, _), (1, _), (2, _), (3, _), (4, _)]) dX6_drive_70 rfl (kn_inc jj) (by decide) rfl ?_
          refine k_goto 46 dX6_drive_73 (by decide) ?_
          have e9 : kf_drv 1 m x y w (kf_keepH σ 41 1 o k) (jj + 1) = ((if kf_mo (kf_drv 1 m x y w (kf_keepH σ 41 1 o k) jj).2 1 x y w = 1 then (kf_drv 1 m x y w (kf_keepH σ 41 1 o k) jj).1 + 1 else (kf_drv 1 m x y w (kf_keepH σ 41 1 o k) jj).1), kf_mod (kf_drv 1 m x y w (kf_keepH σ 41 1 o k) jj).2 1 m x y w) := rfl
          rw [if_neg h64] at e9
          have h9 := ih vv (jj + 1) hv hQ (by omega) (by omega)
          rw [e9] at h9
          exact h9
        · refine k_iinc ((kf_drv 1 m x y w (kf_keepH σ 41 1 o k) jj).1 + 1) (lv' := [(5, _), (6, _), (0, _), (1, _), (2, _), (3, _), (4, _)]) dX6_drive_67 rfl (rfl) (by decide) rfl ?_
          refine k_iinc (nI (jj + 1)) (lv' := [(6, _), (5, _), (0, _), (1, _), (2, _), (3, _), (4, _)]) dX6_drive_70 rfl (kn_inc jj) (by decide) rfl ?_
          refine k_goto 46 dX6_drive_73 (by decide) ?_
          have e9 : kf_drv 1 m x y w (kf_keepH σ 41 1 o k) (jj + 1) = ((if kf_mo (kf_drv 1 m x y w (kf_keepH σ 41 1 o k) jj).2 1 x y w = 1 then (kf_drv 1 m x y w (kf_keepH σ 41 1 o k) jj).1 + 1 else (kf_drv 1 m x y w (kf_keepH σ 41 1 o k) jj).1), kf_mod (kf_drv 1 m x y w (kf_keepH σ 41 1 o k) jj).2 1 m x y w) := rfl
          rw [if_pos h64] at e9
          have h9 := ih vv (jj + 1) hv hQ (by omega) (by omega)
          rw [e9] at h9
          exact h9
  refine k_iload_n 1 dX6_drive_0 rfl rfl ?_
  refine k_iload_n 2 dX6_drive_1 rfl rfl ?_
  refine k_iload_n 3 dX6_drive_2 rfl rfl ?_
  refine k_invS (As := [_, _, _]) dX6_drive_3 mm_X6_isDriving wL_X6_98 ⟨by decide, by decide⟩ rfl rfl (Nat.le_of_ble_eq_true rfl) (Nat.zero_le _) (Nat.zero_le _) (m_X6_isDriving ⟨rfl, ?_⟩)
  refine k_ifeq 25 dX6_drive_6 (by decide) (fun h6 => ?_) (fun h6 => ?_)
  · refine k_iconst (0) dX6_drive_25 (by decide) ?_
    refine k_invS (As := [_]) dX6_drive_26 mm_X6_demand wL_X6_37 ⟨by decide, by decide⟩ rfl rfl (Nat.le_of_ble_eq_true rfl) (c1 := 1) (n1 := 6) (by omega) (by omega) (m_X6_demand (fun hd9 => absurd rfl hd9) (fun _ => ⟨rfl, k_thOut rfl ?_⟩))
    exact hN (by rw [kf_and, if_pos h6])
  · refine k_iload dX6_drive_9 rfl ?_
    refine k_iconst (0) dX6_drive_11 (by decide) ?_
    refine k_sipush (1000) dX6_drive_12 (by decide) ?_
    refine k_invS (As := [_, _, _]) dX6_drive_15 mm_X6_within wL_X6_33 ⟨by decide, by decide⟩ rfl rfl (Nat.le_of_ble_eq_true rfl) (Nat.zero_le _) (Nat.zero_le _) (m_X6_within ⟨rfl, ?_⟩)
    refine k_ifeq 25 dX6_drive_18 (by decide) (fun h18 => ?_) (fun h18 => ?_)
    · refine k_iconst (0) dX6_drive_25 (by decide) ?_
      refine k_invS (As := [_]) dX6_drive_26 mm_X6_demand wL_X6_37 ⟨by decide, by decide⟩ rfl rfl (Nat.le_of_ble_eq_true rfl) (c1 := 1) (n1 := 6) (by omega) (by omega) (m_X6_demand (fun hd9 => absurd rfl hd9) (fun _ => ⟨rfl, k_thOut rfl ?_⟩))
      exact hN (by rw [kf_and, if_neg h6, if_pos h18])
    · refine k_iconst (1) dX6_drive_21 (by decide) ?_
      refine k_goto 26 dX6_drive_22 (by decide) ?_
      refine k_invS (As := [_]) dX6_drive_26 mm_X6_demand wL_X6_37 ⟨by decide, by decide⟩ rfl rfl (Nat.le_of_ble_eq_true rfl) (c1 := 1) (n1 := 6) (by omega) (by omega) (m_X6_demand (fun _ => ⟨rfl, ?_⟩) (fun hd9 => absurd hd9 (by decide)))
      refine k_aload_n 0 dX6_drive_29 rfl rfl ?_
      refine k_getfield dX6_drive_30 hc_X6 hK.1.1 hK.1.2 2 (by decide) wF_X6_22 rfl ?_
      refine k_aload_n 0 dX6_drive_33 rfl rfl ?_
      refine k_getfield dX6_drive_34 hc_X6 hK.1.1 hK.1.2 0 (by decide) wF_X6_12 rfl ?_
      refine k_invV (As := [_]) dX6_drive_37 mm_X2_keep wL_X6_45 ⟨by decide, by decide⟩ hK.2.2.2.1.1.1 hK.2.2.2.1.1.2 rfl rfl (Nat.le_of_ble_eq_true rfl) (Nat.zero_le _) (Nat.zero_le _) (m_X2_keep hK.2.2.2.1 hK.2.1 hb1 hb2 ho ho4 hk hk4 ⟨rfl, ?_⟩)
      refine k_iconst (0) dX6_drive_40 (by decide) ?_
      refine k_istore (lv' := [(5, _), (0, _), (1, _), (2, _), (3, _), (4, _)]) dX6_drive_41 (by decide) rfl ?_
      refine k_iconst (0) dX6_drive_43 (by decide) ?_
      refine k_istore (lv' := [(6, _), (5, _), (0, _), (1, _), (2, _), (3, _), (4, _)]) dX6_drive_44 (by decide) rfl ?_
      obtain ⟨vv, hvv, rfl⟩ := kf_within_nI (n := 1000) rfl (by decide) h18
      exact lp46 (vv + 1) vv 0 hvv (hQ vv rfl hvv (by rw [kf_and, if_neg h6, if_neg h18]; decide)) (by omega) (by omega)

set_option maxRecDepth 100000 in
set_option maxHeartbeats 4000000 in
theorem m_X6_firings {X : kn_X} {σ : kn_S} {τ : kn_T} {z : kn_Z} {c n : Nat} {Q : kn_Q}  (hK : kn_isK z) (hQ : Q (.inl (some (.int (σ 1 13)))) σ τ z) : kn_Ev X MX6_firings [.ref 0] σ τ z c n Q := by
  refine kn_entry (by decide +kernel) rfl (Nat.le_of_ble_eq_true rfl) ?_
  show kn_Go X MX6_firings 0 [(0, .ref 0)] [] _ _ _ _ _ _
  refine k_aload_n 0 dX6_firings_0 rfl rfl ?_
  refine k_getfield dX6_firings_1 hc_X6 hK.1.1 hK.1.2 0 (by decide) wF_X6_12 rfl ?_
  refine k_getfieldN dX6_firings_4 hc_X5 hK.2.1.1.1 hK.2.1.1.2 13 (by decide) wNF_X6_41 rfl ?_
  refine k_iret dX6_firings_7 rfl (rfl) ?_
  exact hQ

set_option maxRecDepth 100000 in
set_option maxHeartbeats 4000000 in
theorem m_X6_next {X : kn_X} {σ : kn_S} {τ : kn_T} {z : kn_Z} {c n : Nat} {Q : kn_Q}  (hK : kn_isK z) (hQ : Q (.inl (some (.int (σ 1 14)))) σ τ z) : kn_Ev X MX6_next [.ref 0] σ τ z c n Q := by
  refine kn_entry (by decide +kernel) rfl (Nat.le_of_ble_eq_true rfl) ?_
  show kn_Go X MX6_next 0 [(0, .ref 0)] [] _ _ _ _ _ _
  refine k_aload_n 0 dX6_next_0 rfl rfl ?_
  refine k_getfield dX6_next_1 hc_X6 hK.1.1 hK.1.2 0 (by decide) wF_X6_12 rfl ?_
  refine k_getfieldN dX6_next_4 hc_X5 hK.2.1.1.1 hK.2.1.1.2 14 (by decide) wNF_X6_104 rfl ?_
  refine k_iret dX6_next_7 rfl (rfl) ?_
  exact hQ

set_option maxRecDepth 100000 in
set_option maxHeartbeats 4000000 in
theorem m_X6_cylinder {X : kn_X} {σ : kn_S} {τ : kn_T} {z : kn_Z} {c n : Nat} {Q : kn_Q} {x y : Int32} (hK : kn_isK z) (hQ : ¬ (kf_isCyl σ x) = 0 → ¬ (kf_within y 0 4) = 0 → Q (.inl (some (.int (kf_aboutCyl σ 1 x y)))) σ τ z) (hNp : (kf_isCyl σ x) = 0 → Q (.inr "java/lang/IndexOutOfBoundsException") σ τ z) (hN : ¬ (kf_isCyl σ x) = 0 → (kf_within y 0 4) = 0 → Q (.inr "java/lang/IllegalArgumentException") σ τ z) : kn_Ev X MX6_cylinder [.ref 0, .int x, .int y] σ τ z (c + 2) (n + 12) Q := by
  refine kn_entry (by decide +kernel) rfl (Nat.le_of_ble_eq_true rfl) ?_
  show kn_Go X MX6_cylinder 0 [(0, .ref 0), (1, .int x), (2, .int y)] [] _ _ _ _ _ _
  refine k_aload_n 0 dX6_cylinder_0 rfl rfl ?_
  refine k_iload_n 1 dX6_cylinder_1 rfl rfl ?_
  refine k_invV (As := [_]) dX6_cylinder_2 mm_X6_isCylinder wL_X6_107 ⟨by decide, by decide⟩ hK.1.1 hK.1.2 rfl rfl (Nat.le_of_ble_eq_true rfl) (Nat.zero_le _) (Nat.zero_le _) (m_X6_isCylinder hK ⟨rfl, ?_⟩)
  refine k_invS (As := [_]) dX6_cylinder_5 mm_X6_demandPlace wL_X6_77 ⟨by decide, by decide⟩ rfl rfl (Nat.le_of_ble_eq_true rfl) (c1 := 1) (n1 := 6) (by omega) (by omega) (m_X6_demandPlace (fun hp => ⟨rfl, ?_⟩) (fun hp => ⟨rfl, k_thOut rfl (hNp hp)⟩))
  refine k_iload_n 2 dX6_cylinder_8 rfl rfl ?_
  refine k_iconst (0) dX6_cylinder_9 (by decide) ?_
  refine k_iconst (4) dX6_cylinder_10 (by decide) ?_
  refine k_invS (As := [_, _, _]) dX6_cylinder_11 mm_X6_within wL_X6_33 ⟨by decide, by decide⟩ rfl rfl (Nat.le_of_ble_eq_true rfl) (Nat.zero_le _) (Nat.zero_le _) (m_X6_within ⟨rfl, ?_⟩)
  refine k_invS (As := [_]) dX6_cylinder_14 mm_X6_demand wL_X6_37 ⟨by decide, by decide⟩ rfl rfl (Nat.le_of_ble_eq_true rfl) (c1 := 1) (n1 := 6) (by omega) (by omega) (m_X6_demand (fun hd => ⟨rfl, ?_⟩) (fun hd => ⟨rfl, k_thOut rfl (hN hp hd)⟩))
  refine k_aload_n 0 dX6_cylinder_17 rfl rfl ?_
  refine k_getfield dX6_cylinder_18 hc_X6 hK.1.1 hK.1.2 0 (by decide) wF_X6_12 rfl ?_
  refine k_iload_n 1 dX6_cylinder_21 rfl rfl ?_
  refine k_iload_n 2 dX6_cylinder_22 rfl rfl ?_
  refine k_invV (As := [_, _]) dX6_cylinder_23 mm_X5_aboutCylinder wL_X6_111 ⟨by decide, by decide⟩ hK.2.1.1.1 hK.2.1.1.2 rfl rfl (Nat.le_of_ble_eq_true rfl) (Nat.zero_le _) (Nat.zero_le _) (m_X5_aboutCylinder hK.2.1 ⟨rfl, ?_⟩)
  refine k_iret dX6_cylinder_26 rfl (rfl) ?_
  exact hQ hp hd

set_option maxRecDepth 100000 in
set_option maxHeartbeats 4000000 in
theorem m_X6_learned {X : kn_X} {σ : kn_S} {τ : kn_T} {z : kn_Z} {c n : Nat} {Q : kn_Q} {x y : Int32} (hK : kn_isK z) (hQ : ¬ (kf_isCell x y) = 0 → Q (.inl (some (.int (kf_at (σ 13) 24 (4 * x + y))))) σ τ z) (hNp : (kf_isCell x y) = 0 → Q (.inr "java/lang/IndexOutOfBoundsException") σ τ z) : kn_Ev X MX6_learned [.ref 0, .int x, .int y] σ τ z (c + 1) (n + 6) Q := by
  refine kn_entry (by decide +kernel) rfl (Nat.le_of_ble_eq_true rfl) ?_
  show kn_Go X MX6_learned 0 [(0, .ref 0), (1, .int x), (2, .int y)] [] _ _ _ _ _ _
  refine k_iload_n 1 dX6_learned_0 rfl rfl ?_
  refine k_iload_n 2 dX6_learned_1 rfl rfl ?_
  refine k_invS (As := [_, _]) dX6_learned_2 mm_X6_isCell wL_X6_74 ⟨by decide, by decide⟩ rfl rfl (Nat.le_of_ble_eq_true rfl) (Nat.zero_le _) (Nat.zero_le _) (m_X6_isCell ⟨rfl, ?_⟩)
  refine k_invS (As := [_]) dX6_learned_5 mm_X6_demandPlace wL_X6_77 ⟨by decide, by decide⟩ rfl rfl (Nat.le_of_ble_eq_true rfl) (c1 := 1) (n1 := 6) (by omega) (by omega) (m_X6_demandPlace (fun hp => ⟨rfl, ?_⟩) (fun hp => ⟨rfl, k_thOut rfl (hNp hp)⟩))
  refine k_aload_n 0 dX6_learned_8 rfl rfl ?_
  refine k_getfield dX6_learned_9 hc_X6 hK.1.1 hK.1.2 0 (by decide) wF_X6_12 rfl ?_
  refine k_getfieldN dX6_learned_12 hc_X5 hK.2.1.1.1 hK.2.1.1.2 5 (by decide) wNF_X6_80 rfl ?_
  refine k_iconst (4) dX6_learned_15 (by decide) ?_
  refine k_iload_n 1 dX6_learned_16 rfl rfl ?_
  refine k_imul dX6_learned_17 ?_
  refine k_iload_n 2 dX6_learned_18 rfl rfl ?_
  refine k_iadd dX6_learned_19 ?_
  refine k_invV (As := [_]) dX6_learned_20 mm_X4_at wL_X6_61 ⟨by decide, by decide⟩ hK.2.1.2.2.2.2.2.2.1.1.1 hK.2.1.2.2.2.2.2.2.1.1.2 rfl rfl (Nat.le_of_ble_eq_true rfl) (Nat.zero_le _) (Nat.zero_le _) (m_X4_at hK.2.1.2.2.2.2.2.2.1 (Nat.le_of_ble_eq_true rfl) ⟨rfl, ?_⟩)
  refine k_iret dX6_learned_23 rfl (rfl) ?_
  exact hQ hp

set_option maxRecDepth 100000 in
set_option maxHeartbeats 4000000 in
theorem m_X6_angle {X : kn_X} {σ : kn_S} {τ : kn_T} {z : kn_Z} {c n : Nat} {Q : kn_Q} {x y w v : Int32} (hK : kn_isK z) (hQ : ¬ (kf_isCyl σ x) = 0 → ¬ (kf_isOp y w) = 0 → Q (.inl (some (.int (if v = 0 then kf_ret σ 1 x (kf_cell y w) else kf_adv σ 1 x y w)))) σ τ z) (hNp : (kf_isCyl σ x) = 0 → Q (.inr "java/lang/IndexOutOfBoundsException") σ τ z) (hN : ¬ (kf_isCyl σ x) = 0 → (kf_isOp y w) = 0 → Q (.inr "java/lang/IllegalArgumentException") σ τ z) : kn_Ev X MX6_angle [.ref 0, .int x, .int y, .int w, .int v] σ τ z (c + 2) (n + 12) Q := by
  refine kn_entry (by decide +kernel) rfl (Nat.le_of_ble_eq_true rfl) ?_
  show kn_Go X MX6_angle 0 [(0, .ref 0), (1, .int x), (2, .int y), (3, .int w), (4, .int v)] [] _ _ _ _ _ _
  refine k_aload_n 0 dX6_angle_0 rfl rfl ?_
  refine k_iload_n 1 dX6_angle_1 rfl rfl ?_
  refine k_invV (As := [_]) dX6_angle_2 mm_X6_isCylinder wL_X6_107 ⟨by decide, by decide⟩ hK.1.1 hK.1.2 rfl rfl (Nat.le_of_ble_eq_true rfl) (Nat.zero_le _) (Nat.zero_le _) (m_X6_isCylinder hK ⟨rfl, ?_⟩)
  refine k_invS (As := [_]) dX6_angle_5 mm_X6_demandPlace wL_X6_77 ⟨by decide, by decide⟩ rfl rfl (Nat.le_of_ble_eq_true rfl) (c1 := 1) (n1 := 6) (by omega) (by omega) (m_X6_demandPlace (fun hp => ⟨rfl, ?_⟩) (fun hp => ⟨rfl, k_thOut rfl (hNp hp)⟩))
  refine k_iload_n 2 dX6_angle_8 rfl rfl ?_
  refine k_iload_n 3 dX6_angle_9 rfl rfl ?_
  refine k_invS (As := [_, _]) dX6_angle_10 mm_X6_isOperation wL_X6_115 ⟨by decide, by decide⟩ rfl rfl (Nat.le_of_ble_eq_true rfl) (Nat.zero_le _) (Nat.zero_le _) (m_X6_isOperation ⟨rfl, ?_⟩)
  refine k_invS (As := [_]) dX6_angle_13 mm_X6_demand wL_X6_37 ⟨by decide, by decide⟩ rfl rfl (Nat.le_of_ble_eq_true rfl) (c1 := 1) (n1 := 6) (by omega) (by omega) (m_X6_demand (fun hd => ⟨rfl, ?_⟩) (fun hd => ⟨rfl, k_thOut rfl (hN hp hd)⟩))
  refine k_iload dX6_angle_16 rfl ?_
  refine k_ifeq 32 dX6_angle_18 (by decide) (fun h18 => ?_) (fun h18 => ?_)
  · refine k_aload_n 0 dX6_angle_32 rfl rfl ?_
    refine k_getfield dX6_angle_33 hc_X6 hK.1.1 hK.1.2 0 (by decide) wF_X6_12 rfl ?_
    refine k_iload_n 1 dX6_angle_36 rfl rfl ?_
    refine k_iload_n 2 dX6_angle_37 rfl rfl ?_
    refine k_iload_n 3 dX6_angle_38 rfl rfl ?_
    refine k_invS (As := [_, _]) dX6_angle_39 mm_X0_cellOf wL_X6_121 ⟨by decide, by decide⟩ rfl rfl (Nat.le_of_ble_eq_true rfl) (Nat.zero_le _) (Nat.zero_le _) (m_X0_cellOf ⟨rfl, ?_⟩)
    refine k_invV (As := [_, _]) dX6_angle_42 mm_X5_retardOf wL_X6_126 ⟨by decide, by decide⟩ hK.2.1.1.1 hK.2.1.1.2 rfl rfl (Nat.le_of_ble_eq_true rfl) (Nat.zero_le _) (Nat.zero_le _) (m_X5_retardOf hK.2.1 ⟨rfl, ?_⟩)
    refine k_iret dX6_angle_45 rfl (rfl) ?_
    have hQ := hQ hp hd
    rw [if_pos h18] at hQ
    exact hQ
  · refine k_aload_n 0 dX6_angle_21 rfl rfl ?_
    refine k_getfield dX6_angle_22 hc_X6 hK.1.1 hK.1.2 0 (by decide) wF_X6_12 rfl ?_
    refine k_iload_n 1 dX6_angle_25 rfl rfl ?_
    refine k_iload_n 2 dX6_angle_26 rfl rfl ?_
    refine k_iload_n 3 dX6_angle_27 rfl rfl ?_
    refine k_invV (As := [_, _, _]) dX6_angle_28 mm_X5_advanceOf wL_X6_118 ⟨by decide, by decide⟩ hK.2.1.1.1 hK.2.1.1.2 rfl rfl (Nat.le_of_ble_eq_true rfl) (Nat.zero_le _) (Nat.zero_le _) (m_X5_advanceOf hK.2.1 ⟨rfl, ?_⟩)
    refine k_iret dX6_angle_31 rfl (rfl) ?_
    have hQ := hQ hp hd
    rw [if_neg h18] at hQ
    exact hQ

set_option maxRecDepth 100000 in
set_option maxHeartbeats 4000000 in
theorem m_X6_status {X : kn_X} {σ : kn_S} {τ : kn_T} {z : kn_Z} {c n : Nat} {Q : kn_Q} {x : Int32} (hK : kn_isK z) (hQ : ¬ (kf_within x 0 4) = 0 → Q (.inl (some (.int (kf_aboutCtl σ 1 x)))) σ τ z) (hN : (kf_within x 0 4) = 0 → Q (.inr "java/lang/IllegalArgumentException") σ τ z) : kn_Ev X MX6_status [.ref 0, .int x] σ τ z (c + 1) (n + 6) Q := by
  refine kn_entry (by decide +kernel) rfl (Nat.le_of_ble_eq_true rfl) ?_
  show kn_Go X MX6_status 0 [(0, .ref 0), (1, .int x)] [] _ _ _ _ _ _
  refine k_iload_n 1 dX6_status_0 rfl rfl ?_
  refine k_iconst (0) dX6_status_1 (by decide) ?_
  refine k_iconst (4) dX6_status_2 (by decide) ?_
  refine k_invS (As := [_, _, _]) dX6_status_3 mm_X6_within wL_X6_33 ⟨by decide, by decide⟩ rfl rfl (Nat.le_of_ble_eq_true rfl) (Nat.zero_le _) (Nat.zero_le _) (m_X6_within ⟨rfl, ?_⟩)
  refine k_invS (As := [_]) dX6_status_6 mm_X6_demand wL_X6_37 ⟨by decide, by decide⟩ rfl rfl (Nat.le_of_ble_eq_true rfl) (c1 := 1) (n1 := 6) (by omega) (by omega) (m_X6_demand (fun hd => ⟨rfl, ?_⟩) (fun hd => ⟨rfl, k_thOut rfl (hN hd)⟩))
  refine k_aload_n 0 dX6_status_9 rfl rfl ?_
  refine k_getfield dX6_status_10 hc_X6 hK.1.1 hK.1.2 0 (by decide) wF_X6_12 rfl ?_
  refine k_iload_n 1 dX6_status_13 rfl rfl ?_
  refine k_invV (As := [_]) dX6_status_14 mm_X5_aboutControl wL_X6_129 ⟨by decide, by decide⟩ hK.2.1.1.1 hK.2.1.1.2 rfl rfl (Nat.le_of_ble_eq_true rfl) (Nat.zero_le _) (Nat.zero_le _) (m_X5_aboutControl hK.2.1 ⟨rfl, ?_⟩)
  refine k_iret dX6_status_17 rfl (rfl) ?_
  exact hQ hd

set_option maxRecDepth 100000 in
set_option maxHeartbeats 4000000 in
theorem m_X6_unfairness {X : kn_X} {σ : kn_S} {τ : kn_T} {z : kn_Z} {c n : Nat} {Q : kn_Q} {m : Nat} (hK : kn_isK z) (hcy : σ 1 7 = nI m) (hm : 1 ≤ m ∧ m ≤ 8) (hQ : Q (.inl (some (.int (kf_gf σ 1 m - kf_sf σ 1 m)))) σ τ z) : kn_Ev X MX6_unfairness [.ref 0] σ τ z c n Q := by
  refine kn_entry (by decide +kernel) rfl (Nat.le_of_ble_eq_true rfl) ?_
  show kn_Go X MX6_unfairness 0 [(0, .ref 0)] [] _ _ _ _ _ _
  refine k_aload_n 0 dX6_unfairness_0 rfl rfl ?_
  refine k_getfield dX6_unfairness_1 hc_X6 hK.1.1 hK.1.2 0 (by decide) wF_X6_12 rfl ?_
  refine k_invV (As := []) dX6_unfairness_4 mm_X5_greatestFast wL_X6_132 ⟨by decide, by decide⟩ hK.2.1.1.1 hK.2.1.1.2 rfl rfl (Nat.le_of_ble_eq_true rfl) (Nat.zero_le _) (Nat.zero_le _) (m_X5_greatestFast hK.2.1 hcy hm ⟨rfl, ?_⟩)
  refine k_aload_n 0 dX6_unfairness_7 rfl rfl ?_
  refine k_getfield dX6_unfairness_8 hc_X6 hK.1.1 hK.1.2 0 (by decide) wF_X6_12 rfl ?_
  refine k_invV (As := []) dX6_unfairness_11 mm_X5_smallestFast wL_X6_136 ⟨by decide, by decide⟩ hK.2.1.1.1 hK.2.1.1.2 rfl rfl (Nat.le_of_ble_eq_true rfl) (Nat.zero_le _) (Nat.zero_le _) (m_X5_smallestFast hK.2.1 hcy hm ⟨rfl, ?_⟩)
  refine k_isub dX6_unfairness_14 ?_
  refine k_iret dX6_unfairness_15 rfl (rfl) ?_
  exact hQ

set_option maxRecDepth 100000 in
set_option maxHeartbeats 4000000 in
theorem m_X6_events {X : kn_X} {σ : kn_S} {τ : kn_T} {z : kn_Z} {c n : Nat} {Q : kn_Q}  (hK : kn_isK z) (hQ : Q (.inl (some (.int (σ 14 4)))) σ τ z) : kn_Ev X MX6_events [.ref 0] σ τ z c n Q := by
  refine kn_entry (by decide +kernel) rfl (Nat.le_of_ble_eq_true rfl) ?_
  show kn_Go X MX6_events 0 [(0, .ref 0)] [] _ _ _ _ _ _
  refine k_aload_n 0 dX6_events_0 rfl rfl ?_
  refine k_getfield dX6_events_1 hc_X6 hK.1.1 hK.1.2 0 (by decide) wF_X6_12 rfl ?_
  refine k_getfieldN dX6_events_4 hc_X5 hK.2.1.1.1 hK.2.1.1.2 6 (by decide) wNF_X6_158 rfl ?_
  refine k_invV (As := []) dX6_events_7 mm_X3_size wL_X6_162 ⟨by decide, by decide⟩ hK.2.1.2.2.2.2.2.2.2.1.1 hK.2.1.2.2.2.2.2.2.2.1.2 rfl rfl (Nat.le_of_ble_eq_true rfl) (Nat.zero_le _) (Nat.zero_le _) (m_X3_size hK.2.1.2.2.2.2.2.2.2 ⟨rfl, ?_⟩)
  refine k_iret dX6_events_10 rfl (rfl) ?_
  exact hQ

set_option maxRecDepth 100000 in
set_option maxHeartbeats 4000000 in
theorem m_X6_event {X : kn_X} {σ : kn_S} {τ : kn_T} {z : kn_Z} {c n : Nat} {Q : kn_Q} {x y : Int32} (hK : kn_isK z) (hQ : ¬ (kf_within x 0 (σ 14 4 - 1)) = 0 → ¬ (kf_within y 0 2) = 0 → Q (.inl (some (.int (kf_about σ 14 x y)))) σ τ z) (hNp : (kf_within x 0 (σ 14 4 - 1)) = 0 → Q (.inr "java/lang/IndexOutOfBoundsException") σ τ z) (hN : ¬ (kf_within x 0 (σ 14 4 - 1)) = 0 → (kf_within y 0 2) = 0 → Q (.inr "java/lang/IllegalArgumentException") σ τ z) : kn_Ev X MX6_event [.ref 0, .int x, .int y] σ τ z (c + 2) (n + 12) Q := by
  refine kn_entry (by decide +kernel) rfl (Nat.le_of_ble_eq_true rfl) ?_
  show kn_Go X MX6_event 0 [(0, .ref 0), (1, .int x), (2, .int y)] [] _ _ _ _ _ _
  refine k_iload_n 1 dX6_event_0 rfl rfl ?_
  refine k_iconst (0) dX6_event_1 (by decide) ?_
  refine k_aload_n 0 dX6_event_2 rfl rfl ?_
  refine k_getfield dX6_event_3 hc_X6 hK.1.1 hK.1.2 0 (by decide) wF_X6_12 rfl ?_
  refine k_getfieldN dX6_event_6 hc_X5 hK.2.1.1.1 hK.2.1.1.2 6 (by decide) wNF_X6_158 rfl ?_
  refine k_invV (As := []) dX6_event_9 mm_X3_size wL_X6_162 ⟨by decide, by decide⟩ hK.2.1.2.2.2.2.2.2.2.1.1 hK.2.1.2.2.2.2.2.2.2.1.2 rfl rfl (Nat.le_of_ble_eq_true rfl) (Nat.zero_le _) (Nat.zero_le _) (m_X3_size hK.2.1.2.2.2.2.2.2.2 ⟨rfl, ?_⟩)
  refine k_iconst (1) dX6_event_12 (by decide) ?_
  refine k_isub dX6_event_13 ?_
  refine k_invS (As := [_, _, _]) dX6_event_14 mm_X6_within wL_X6_33 ⟨by decide, by decide⟩ rfl rfl (Nat.le_of_ble_eq_true rfl) (Nat.zero_le _) (Nat.zero_le _) (m_X6_within ⟨rfl, ?_⟩)
  refine k_invS (As := [_]) dX6_event_17 mm_X6_demandPlace wL_X6_77 ⟨by decide, by decide⟩ rfl rfl (Nat.le_of_ble_eq_true rfl) (c1 := 1) (n1 := 6) (by omega) (by omega) (m_X6_demandPlace (fun hp => ⟨rfl, ?_⟩) (fun hp => ⟨rfl, k_thOut rfl (hNp hp)⟩))
  refine k_iload_n 2 dX6_event_20 rfl rfl ?_
  refine k_iconst (0) dX6_event_21 (by decide) ?_
  refine k_iconst (2) dX6_event_22 (by decide) ?_
  refine k_invS (As := [_, _, _]) dX6_event_23 mm_X6_within wL_X6_33 ⟨by decide, by decide⟩ rfl rfl (Nat.le_of_ble_eq_true rfl) (Nat.zero_le _) (Nat.zero_le _) (m_X6_within ⟨rfl, ?_⟩)
  refine k_invS (As := [_]) dX6_event_26 mm_X6_demand wL_X6_37 ⟨by decide, by decide⟩ rfl rfl (Nat.le_of_ble_eq_true rfl) (c1 := 1) (n1 := 6) (by omega) (by omega) (m_X6_demand (fun hd => ⟨rfl, ?_⟩) (fun hd => ⟨rfl, k_thOut rfl (hN hp hd)⟩))
  refine k_aload_n 0 dX6_event_29 rfl rfl ?_
  refine k_getfield dX6_event_30 hc_X6 hK.1.1 hK.1.2 0 (by decide) wF_X6_12 rfl ?_
  refine k_getfieldN dX6_event_33 hc_X5 hK.2.1.1.1 hK.2.1.1.2 6 (by decide) wNF_X6_158 rfl ?_
  refine k_iload_n 1 dX6_event_36 rfl rfl ?_
  refine k_iload_n 2 dX6_event_37 rfl rfl ?_
  refine k_invV (As := [_, _]) dX6_event_38 mm_X3_about wL_X6_167 ⟨by decide, by decide⟩ hK.2.1.2.2.2.2.2.2.2.1.1 hK.2.1.2.2.2.2.2.2.2.1.2 rfl rfl (Nat.le_of_ble_eq_true rfl) (Nat.zero_le _) (Nat.zero_le _) (m_X3_about hK.2.1.2.2.2.2.2.2.2 ⟨rfl, ?_⟩)
  refine k_iret dX6_event_41 rfl (rfl) ?_
  exact hQ hp hd

