-- the model's row
theorem kg_add {x y : Int32} {a b : Nat} (h : x = nI a) (h2 : y = nI b) : x + y = nI (a + b) := by rw [h, h2]; exact nI_add a b
theorem kg_mul {x y : Int32} {a b : Nat} (h : x = nI a) (h2 : y = nI b) : x * y = nI (a * b) := by rw [h, h2]; exact (Int32.ofNat_mul a b).symm
section KG
variable {X : kn_X} {M : kn_M} {pc : Nat} {lv : kn_L} {σ : kn_S} {τ : kn_T} {z : kn_Z} {c n : Nat} {Q : kn_Q} {st : List Value} {i : Nat}
theorem k_ialoadN {x : Int32} {len : Nat} (k : Nat) (hd : decode M.2.1 pc = .ok (.iaload, 1)) (hi : i < z.1) (hz : z.2 i = .inr (.inl (0, len))) (hx : x = nI k) (hk : k < len ∧ len < 2 ^ 31)
    (kk : kn_Go X M (pc + 1) lv (.int (σ i k) :: st) σ τ z c n Q) : kn_Go X M pc lv (.int x :: .ref i :: st) σ τ z c n Q := by
  subst hx
  refine k_iaload hd hi hz (vp_in_nI hk.1 hk.2) ?_
  rw [nI_clamp (by omega)]
  exact kk
theorem k_ialoadV {x v : Int32} {len : Nat} (k : Nat) (hd : decode M.2.1 pc = .ok (.iaload, 1)) (hi : i < z.1) (hz : z.2 i = .inr (.inl (0, len))) (hx : x = nI k) (hk : k < len ∧ len < 2 ^ 31) (hv : σ i k = v)
    (kk : kn_Go X M (pc + 1) lv (.int v :: st) σ τ z c n Q) : kn_Go X M pc lv (.int x :: .ref i :: st) σ τ z c n Q :=
  k_ialoadN k hd hi hz hx hk (hv ▸ kk)
theorem k_iastoreN {x v : Int32} {len : Nat} (k : Nat) (hd : decode M.2.1 pc = .ok (.iastore, 1)) (hi : i < z.1) (hz : z.2 i = .inr (.inl (0, len))) (hx : x = nI k) (hk : k < len ∧ len < 2 ^ 31)
    (kk : kn_Go X M (pc + 1) lv st (kn_up σ i k v) τ z c n Q) : kn_Go X M pc lv (.int v :: .int x :: .ref i :: st) σ τ z c n Q := by
  subst hx
  refine k_iastore hd hi hz (vp_in_nI hk.1 hk.2) ?_
  rw [nI_clamp (by omega)]
  exact kk
end KG
/-- the model: its object at 128, its row, what it saved, what it laid aside, its text -/
def kn_isM (z : kn_Z) : Prop := (128 < z.1 ∧ z.2 128 = .inl (6, [some (.ref 129), some (.ref 130), some (.ref 131), none, none, some (.ref 132), none, none, none, none, none, none, some (.long 0)])) ∧ (129 < z.1 ∧ z.2 129 = .inr (.inl (0, 254))) ∧ (130 < z.1 ∧ z.2 130 = .inr (.inl (0, 1016))) ∧ (131 < z.1 ∧ z.2 131 = .inr (.inl (0, 254))) ∧ (132 < z.1 ∧ z.2 132 = .inr (.inl (0, 120)))
theorem kf_min_le {a b : Int32} (h : b ≤ a) : kf_min a b = b := by
  unfold kf_min
  split
  · rfl
  · rename_i h2
    rw [Int32.lt_iff_toInt_lt] at h2
    rw [Int32.le_iff_toInt_le] at h
    exact Int32.toInt_inj.mp (by omega)
theorem kf_min_gt {a b : Int32} (h : ¬ b ≤ a) : kf_min a b = a := by
  unfold kf_min
  rw [if_neg]
  intro h2
  rw [Int32.lt_iff_toInt_lt] at h2
  rw [Int32.le_iff_toInt_le] at h
  omega
def kg_fl (a b : Int32) : Int32 := if 0 ≤ a - a / b * b then a / b else a / b - 1
/-- the row's places from lo on hold v, k of them -/
def kg_fill (s : kn_S) (lo : Nat) (v : Int32) : Nat → kn_S
  | 0 => s
  | k + 1 => kn_up (kg_fill s lo v k) 129 (lo + k) v
def kg_cpy (s : kn_S) (b d b2 d2 : Nat) : Nat → kn_S
  | 0 => s
  | k + 1 => kn_up (kg_cpy s b d b2 d2 k) b (d + k) (kg_cpy s b d b2 d2 k b2 (d2 + k))
theorem kg_cpy_ne (s : kn_S) {b d b2 d2 b' : Nat} (h : b' ≠ b) : ∀ k, kg_cpy s b d b2 d2 k b' = s b'
  | 0 => rfl
  | k + 1 => by
    show kn_up (kg_cpy s b d b2 d2 k) b (d + k) _ b' = s b'
    rw [kn_up_ne _ _ _ h, kg_cpy_ne s h k]
def kg_begins (s : kn_S) (v : Int32) : kn_S := kg_fill (kn_up (kg_fill (kn_up (kn_up s 129 8 v) 129 9 0) 12 0 242) 129 16 (-1)) 25 51200 8
/-- four rows kept: one is dropped first -/
def kg_saves (s : kn_S) (sv : Nat) : kn_S := if sv = 4 then kn_up (kg_cpy (kn_up (kg_cpy s 130 0 130 254 762) 128 3 (nI 3)) 130 762 129 0 254) 128 3 (nI 4) else kn_up (kg_cpy s 130 (254 * sv) 129 0 254) 128 3 (nI (sv + 1))
def kg_undo (s : kn_S) (sv : Nat) : kn_S := kg_cpy (kn_up s 128 3 (nI sv)) 129 0 130 (254 * sv) 254
theorem kg_saves_ne (s : kn_S) (sv : Nat) {b' : Nat} (h1 : b' ≠ 130) (h2 : b' ≠ 128) : kg_saves s sv b' = s b' := by
  unfold kg_saves
  split
  · rw [kn_up_ne _ _ _ h2, kg_cpy_ne _ h1, kn_up_ne _ _ _ h2, kg_cpy_ne _ h1]
  · rw [kn_up_ne _ _ _ h2, kg_cpy_ne _ h1]
theorem kn_ofint0 : (0 : Int32) = nI 0 := rfl

set_option maxRecDepth 100000 in
set_option maxHeartbeats 4000000 in
theorem m_X7_thrown {X : kn_X} {σ : kn_S} {τ : kn_T} {z : kn_Z} {c n : Nat} {Q : kn_Q}  (hM : kn_isM z) (hQ : Q (.inl (some (.int (σ 128 4)))) σ τ z) : kn_Ev X MX7_thrown [.ref 128] σ τ z c n Q := by
  refine kn_entry (by decide +kernel) rfl (Nat.le_of_ble_eq_true rfl) ?_
  show kn_Go X MX7_thrown 0 [(0, .ref 128)] [] _ _ _ _ _ _
  refine k_aload_n 0 dX7_thrown_0 rfl rfl ?_
  refine k_getfield dX7_thrown_1 hc_X7 hM.1.1 hM.1.2 4 (by decide) wF_X7_27 rfl ?_
  refine k_iret dX7_thrown_4 rfl (rfl) ?_
  exact hQ

set_option maxRecDepth 100000 in
set_option maxHeartbeats 4000000 in
theorem m_X7_refused {X : kn_X} {σ : kn_S} {τ : kn_T} {z : kn_Z} {c n : Nat} {Q : kn_Q} {w r : Int32} (hM : kn_isM z) (hr : (if w ≤ 0 then 0 else 1) = r) (hQ : Q (.inl (some (.int (r)))) (kn_up σ 128 4 w) τ z) : kn_Ev X MX7_refused [.ref 128, .int w] σ τ z c n Q := by
  refine kn_entry (by decide +kernel) rfl (Nat.le_of_ble_eq_true rfl) ?_
  show kn_Go X MX7_refused 0 [(0, .ref 128), (1, .int w)] [] _ _ _ _ _ _
  refine k_aload_n 0 dX7_refused_0 rfl rfl ?_
  refine k_iload_n 1 dX7_refused_1 rfl rfl ?_
  refine k_putfield dX7_refused_2 hc_X7 hM.1.1 hM.1.2 4 (by decide) wF_X7_27 rfl rfl (t9 := .int) (by decide +kernel) rfl rfl ?_
  refine k_iload_n 1 dX7_refused_5 rfl rfl ?_
  refine k_ifle 13 dX7_refused_6 (by decide) (fun h6 => ?_) (fun h6 => ?_)
  · refine k_iconst (0) dX7_refused_13 (by decide) ?_
    refine k_iret dX7_refused_14 rfl (rfl) ?_
    rw [if_pos h6] at hr
    subst hr
    exact hQ
  · refine k_iconst (1) dX7_refused_9 (by decide) ?_
    refine k_goto 14 dX7_refused_10 (by decide) ?_
    refine k_iret dX7_refused_14 rfl (rfl) ?_
    rw [if_neg h6] at hr
    subst hr
    exact hQ

set_option maxRecDepth 100000 in
set_option maxHeartbeats 4000000 in
theorem m_X7_within {X : kn_X} {σ : kn_S} {τ : kn_T} {z : kn_Z} {c n : Nat} {Q : kn_Q} {v lo hi : Int32} (hQ : Q (.inl (some (.int (kf_within v lo hi)))) σ τ z) : kn_Ev X MX7_within [.int v, .int lo, .int hi] σ τ z c n Q := by
  refine kn_entry (by decide +kernel) rfl (Nat.le_of_ble_eq_true rfl) ?_
  show kn_Go X MX7_within 0 [(0, .int v), (1, .int lo), (2, .int hi)] [] _ _ _ _ _ _
  refine k_iload_n 0 dX7_within_0 rfl rfl ?_
  refine k_iload_n 1 dX7_within_1 rfl rfl ?_
  refine k_icmplt 14 dX7_within_2 (by decide) (fun h2 => ?_) (fun h2 => ?_)
  · refine k_iconst (0) dX7_within_14 (by decide) ?_
    refine k_iret dX7_within_15 rfl (rfl) ?_
    dsimp only [kf_within] at hQ
    rw [if_pos h2] at hQ
    exact hQ
  · refine k_iload_n 0 dX7_within_5 rfl rfl ?_
    refine k_iload_n 2 dX7_within_6 rfl rfl ?_
    refine k_icmpgt 14 dX7_within_7 (by decide) (fun h7 => ?_) (fun h7 => ?_)
    · refine k_iconst (0) dX7_within_14 (by decide) ?_
      refine k_iret dX7_within_15 rfl (rfl) ?_
      dsimp only [kf_within] at hQ
      rw [if_neg h2, if_pos h7] at hQ
      exact hQ
    · refine k_iconst (1) dX7_within_10 (by decide) ?_
      refine k_goto 15 dX7_within_11 (by decide) ?_
      refine k_iret dX7_within_15 rfl (rfl) ?_
      dsimp only [kf_within] at hQ
      rw [if_neg h2, if_neg h7] at hQ
      exact hQ

set_option maxRecDepth 100000 in
set_option maxHeartbeats 4000000 in
theorem m_X7_floor {X : kn_X} {σ : kn_S} {τ : kn_T} {z : kn_Z} {c n : Nat} {Q : kn_Q} {a b : Int32} (hb : ¬ b = 0) (hQ : Q (.inl (some (.int (kg_fl a b)))) σ τ z) : kn_Ev X MX7_floor [.int a, .int b] σ τ z c n Q := by
  refine kn_entry (by decide +kernel) rfl (Nat.le_of_ble_eq_true rfl) ?_
  show kn_Go X MX7_floor 0 [(0, .int a), (1, .int b)] [] _ _ _ _ _ _
  refine k_iload_n 0 dX7_floor_0 rfl rfl ?_
  refine k_iload_n 1 dX7_floor_1 rfl rfl ?_
  refine k_idiv dX7_floor_2 (hb) ?_
  refine k_istore_n 2 (lv' := [(2, _), (0, _), (1, _)]) dX7_floor_3 rfl (by decide) rfl ?_
  refine k_iload_n 0 dX7_floor_4 rfl rfl ?_
  refine k_iload_n 1 dX7_floor_5 rfl rfl ?_
  refine k_irem dX7_floor_6 (hb) ?_
  refine k_ifge 16 dX7_floor_7 (by decide) (fun h7 => ?_) (fun h7 => ?_)
  · refine k_iload_n 2 dX7_floor_16 rfl rfl ?_
    refine k_iret dX7_floor_17 rfl (rfl) ?_
    dsimp only [kg_fl] at hQ
    rw [if_pos h7] at hQ
    exact hQ
  · refine k_iload_n 2 dX7_floor_10 rfl rfl ?_
    refine k_iconst (1) dX7_floor_11 (by decide) ?_
    refine k_isub dX7_floor_12 ?_
    refine k_goto 17 dX7_floor_13 (by decide) ?_
    refine k_iret dX7_floor_17 rfl (rfl) ?_
    dsimp only [kg_fl] at hQ
    rw [if_neg h7] at hQ
    exact hQ

set_option maxRecDepth 100000 in
set_option maxHeartbeats 4000000 in
theorem m_X7_lesser {X : kn_X} {σ : kn_S} {τ : kn_T} {z : kn_Z} {c n : Nat} {Q : kn_Q} {a b : Int32} (hQ : Q (.inl (some (.int (kf_min a b)))) σ τ z) : kn_Ev X MX7_lesser [.int a, .int b] σ τ z c n Q := by
  refine kn_entry (by decide +kernel) rfl (Nat.le_of_ble_eq_true rfl) ?_
  show kn_Go X MX7_lesser 0 [(0, .int a), (1, .int b)] [] _ _ _ _ _ _
  refine k_iload_n 0 dX7_lesser_0 rfl rfl ?_
  refine k_iload_n 1 dX7_lesser_1 rfl rfl ?_
  refine k_icmpge 9 dX7_lesser_2 (by decide) (fun h2 => ?_) (fun h2 => ?_)
  · refine k_iload_n 1 dX7_lesser_9 rfl rfl ?_
    refine k_iret dX7_lesser_10 rfl (rfl) ?_
    rw [kf_min_le h2] at hQ
    exact hQ
  · refine k_iload_n 0 dX7_lesser_5 rfl rfl ?_
    refine k_goto 10 dX7_lesser_6 (by decide) ?_
    refine k_iret dX7_lesser_10 rfl (rfl) ?_
    rw [kf_min_gt h2] at hQ
    exact hQ

set_option maxRecDepth 100000 in
set_option maxHeartbeats 4000000 in
theorem m_X7_laysAside {X : kn_X} {σ : kn_S} {τ : kn_T} {z : kn_Z} {c n : Nat} {Q : kn_Q}  (hM : kn_isM z) (hQ : Q (.inl none) (kg_cpy σ 131 0 129 0 254) τ z) : kn_Ev X MX7_laysAside [.ref 128] σ τ z c n Q := by
  refine kn_entry (by decide +kernel) rfl (Nat.le_of_ble_eq_true rfl) ?_
  show kn_Go X MX7_laysAside 0 [(0, .ref 128)] [] _ _ _ _ _ _
  have lp2 : ∀ r9 : Nat, ∀ j : Nat, j + r9 = 254 → kn_Go X MX7_laysAside 2 [(1, .int (nI j)), (0, .ref 128)] [] (kg_cpy σ 131 0 129 0 j) τ z c n Q := by
    intro r9
    induction r9 with
    | zero =>
      intro j hj
      obtain rfl : j = 254 := by omega
      refine k_iload_n 1 dX7_laysAside_2 rfl rfl ?_
      refine k_sipush (254) dX7_laysAside_3 (by decide) ?_
      refine k_icmpge 27 dX7_laysAside_6 (by decide) (fun h6 => ?_) (fun h6 => ?_)
      · refine k_vret dX7_laysAside_27 rfl ?_
        exact hQ
      · exact absurd (nI_le (Nat.le_refl 254) (by decide)) h6
    | succ r9 ih =>
      intro j hj
      refine k_iload_n 1 dX7_laysAside_2 rfl rfl ?_
      refine k_sipush (254) dX7_laysAside_3 (by decide) ?_
      refine k_icmpge 27 dX7_laysAside_6 (by decide) (fun h6 => ?_) (fun h6 => ?_)
      · exact absurd h6 (nI_ge (b := 254) (by omega) (by decide))
      · refine k_aload_n 0 dX7_laysAside_9 rfl rfl ?_
        refine k_getfield dX7_laysAside_10 hc_X7 hM.1.1 hM.1.2 2 (by decide) wF_X7_16 rfl ?_
        refine k_iload_n 1 dX7_laysAside_13 rfl rfl ?_
        refine k_aload_n 0 dX7_laysAside_14 rfl rfl ?_
        refine k_getfield dX7_laysAside_15 hc_X7 hM.1.1 hM.1.2 0 (by decide) wF_X7_7 rfl ?_
        refine k_iload_n 1 dX7_laysAside_18 rfl rfl ?_
        refine k_ialoadN (j) dX7_laysAside_19 hM.2.1.1 hM.2.1.2 (rfl) (⟨by omega, by decide⟩) ?_
        refine k_iastoreN (j) dX7_laysAside_20 hM.2.2.2.1.1 hM.2.2.2.1.2 (rfl) (⟨by omega, by decide⟩) ?_
        refine k_iinc (nI (j + 1)) (lv' := [(1, _), (0, _)]) dX7_laysAside_21 rfl (kn_inc j) (by decide) rfl ?_
        refine k_goto 2 dX7_laysAside_24 (by decide) ?_
        have h9 := ih (j + 1) (by omega)
        rw [kg_cpy, Nat.zero_add] at h9
        exact h9
  refine k_iconst (0) dX7_laysAside_0 (by decide) ?_
  refine k_istore_n 1 (lv' := [(1, _), (0, _)]) dX7_laysAside_1 rfl (by decide) rfl ?_
  exact lp2 254 0 (by omega)

set_option maxRecDepth 100000 in
set_option maxHeartbeats 4000000 in
theorem m_X7_takesBack {X : kn_X} {σ : kn_S} {τ : kn_T} {z : kn_Z} {c n : Nat} {Q : kn_Q}  (hM : kn_isM z) (hQ : Q (.inl none) (kg_cpy σ 129 0 131 0 254) τ z) : kn_Ev X MX7_takesBack [.ref 128] σ τ z c n Q := by
  refine kn_entry (by decide +kernel) rfl (Nat.le_of_ble_eq_true rfl) ?_
  show kn_Go X MX7_takesBack 0 [(0, .ref 128)] [] _ _ _ _ _ _
  have lp2 : ∀ r9 : Nat, ∀ j : Nat, j + r9 = 254 → kn_Go X MX7_takesBack 2 [(1, .int (nI j)), (0, .ref 128)] [] (kg_cpy σ 129 0 131 0 j) τ z c n Q := by
    intro r9
    induction r9 with
    | zero =>
      intro j hj
      obtain rfl : j = 254 := by omega
      refine k_iload_n 1 dX7_takesBack_2 rfl rfl ?_
      refine k_sipush (254) dX7_takesBack_3 (by decide) ?_
      refine k_icmpge 27 dX7_takesBack_6 (by decide) (fun h6 => ?_) (fun h6 => ?_)
      · refine k_vret dX7_takesBack_27 rfl ?_
        exact hQ
      · exact absurd (nI_le (Nat.le_refl 254) (by decide)) h6
    | succ r9 ih =>
      intro j hj
      refine k_iload_n 1 dX7_takesBack_2 rfl rfl ?_
      refine k_sipush (254) dX7_takesBack_3 (by decide) ?_
      refine k_icmpge 27 dX7_takesBack_6 (by decide) (fun h6 => ?_) (fun h6 => ?_)
      · exact absurd h6 (nI_ge (b := 254) (by omega) (by decide))
      · refine k_aload_n 0 dX7_takesBack_9 rfl rfl ?_
        refine k_getfield dX7_takesBack_10 hc_X7 hM.1.1 hM.1.2 0 (by decide) wF_X7_7 rfl ?_
        refine k_iload_n 1 dX7_takesBack_13 rfl rfl ?_
        refine k_aload_n 0 dX7_takesBack_14 rfl rfl ?_
        refine k_getfield dX7_takesBack_15 hc_X7 hM.1.1 hM.1.2 2 (by decide) wF_X7_16 rfl ?_
        refine k_iload_n 1 dX7_takesBack_18 rfl rfl ?_
        refine k_ialoadN (j) dX7_takesBack_19 hM.2.2.2.1.1 hM.2.2.2.1.2 (rfl) (⟨by omega, by decide⟩) ?_
        refine k_iastoreN (j) dX7_takesBack_20 hM.2.1.1 hM.2.1.2 (rfl) (⟨by omega, by decide⟩) ?_
        refine k_iinc (nI (j + 1)) (lv' := [(1, _), (0, _)]) dX7_takesBack_21 rfl (kn_inc j) (by decide) rfl ?_
        refine k_goto 2 dX7_takesBack_24 (by decide) ?_
        have h9 := ih (j + 1) (by omega)
        rw [kg_cpy, Nat.zero_add] at h9
        exact h9
  refine k_iconst (0) dX7_takesBack_0 (by decide) ?_
  refine k_istore_n 1 (lv' := [(1, _), (0, _)]) dX7_takesBack_1 rfl (by decide) rfl ?_
  exact lp2 254 0 (by omega)

set_option maxRecDepth 100000 in
set_option maxHeartbeats 4000000 in
theorem m_X7_begins {X : kn_X} {σ : kn_S} {τ : kn_T} {z : kn_Z} {c n : Nat} {Q : kn_Q} {v : Int32} (hM : kn_isM z) (hQ : Q (.inl none) (kg_begins σ v) τ z) : kn_Ev X MX7_begins [.ref 128, .int v] σ τ z c n Q := by
  refine kn_entry (by decide +kernel) rfl (Nat.le_of_ble_eq_true rfl) ?_
  show kn_Go X MX7_begins 0 [(0, .ref 128), (1, .int v)] [] _ _ _ _ _ _
  have lp49 : ∀ r9 : Nat, ∀ j : Nat, j + r9 = 8 → kn_Go X MX7_begins 49 [(2, .int (nI j)), (0, .ref 128), (1, .int v)] [] (kg_fill (kn_up (kg_fill (kn_up (kn_up σ 129 8 v) 129 9 0) 12 0 242) 129 16 (-1)) 25 51200 j) τ z c n Q := by
    intro r9
    induction r9 with
    | zero =>
      intro j hj
      obtain rfl : j = 8 := by omega
      refine k_iload_n 2 dX7_begins_49 rfl rfl ?_
      refine k_bipush (8) dX7_begins_50 (by decide) ?_
      refine k_icmpge 72 dX7_begins_52 (by decide) (fun h52 => ?_) (fun h52 => ?_)
      · refine k_vret dX7_begins_72 rfl ?_
        exact hQ
      · exact absurd (nI_le (Nat.le_refl 8) (by decide)) h52
    | succ r9 ih =>
      intro j hj
      refine k_iload_n 2 dX7_begins_49 rfl rfl ?_
      refine k_bipush (8) dX7_begins_50 (by decide) ?_
      refine k_icmpge 72 dX7_begins_52 (by decide) (fun h52 => ?_) (fun h52 => ?_)
      · exact absurd h52 (nI_ge (b := 8) (by omega) (by decide))
      · refine k_aload_n 0 dX7_begins_55 rfl rfl ?_
        refine k_getfield dX7_begins_56 hc_X7 hM.1.1 hM.1.2 0 (by decide) wF_X7_7 rfl ?_
        refine k_bipush (25) dX7_begins_59 (by decide) ?_
        refine k_iload_n 2 dX7_begins_61 rfl rfl ?_
        refine k_iadd dX7_begins_62 ?_
        refine k_ldc dX7_begins_63 wK_X7_26 ?_
        refine k_iastoreN ((25 + j)) dX7_begins_65 hM.2.1.1 hM.2.1.2 ((kg_add rfl rfl)) (⟨by omega, by decide⟩) ?_
        refine k_iinc (nI (j + 1)) (lv' := [(2, _), (0, _), (1, _)]) dX7_begins_66 rfl (kn_inc j) (by decide) rfl ?_
        refine k_goto 49 dX7_begins_69 (by decide) ?_
        exact ih (j + 1) (by omega)
  have lp19 : ∀ r9 : Nat, ∀ j : Nat, 12 ≤ j → j + r9 = 254 → kn_Go X MX7_begins 19 [(2, .int (nI j)), (0, .ref 128), (1, .int v)] [] (kg_fill (kn_up (kn_up σ 129 8 v) 129 9 0) 12 0 (j - 12)) τ z c n Q := by
    intro r9
    induction r9 with
    | zero =>
      intro j h12 hj
      obtain rfl : j = 254 := by omega
      refine k_iload_n 2 dX7_begins_19 rfl rfl ?_
      refine k_sipush (254) dX7_begins_20 (by decide) ?_
      refine k_icmpge 39 dX7_begins_23 (by decide) (fun h23 => ?_) (fun h23 => ?_)
      · refine k_aload_n 0 dX7_begins_39 rfl rfl ?_
        refine k_getfield dX7_begins_40 hc_X7 hM.1.1 hM.1.2 0 (by decide) wF_X7_7 rfl ?_
        refine k_bipush (16) dX7_begins_43 (by decide) ?_
        refine k_iconst (-1) dX7_begins_45 (by decide) ?_
        refine k_iastoreN (16) dX7_begins_46 hM.2.1.1 hM.2.1.2 (rfl) (⟨by omega, by decide⟩) ?_
        refine k_iconst (0) dX7_begins_47 (by decide) ?_
        refine k_istore_n 2 (lv' := [(2, _), (0, _), (1, _)]) dX7_begins_48 rfl (by decide) rfl ?_
        exact lp49 8 0 (by omega)
      · exact absurd (nI_le (Nat.le_refl 254) (by decide)) h23
    | succ r9 ih =>
      intro j h12 hj
      refine k_iload_n 2 dX7_begins_19 rfl rfl ?_
      refine k_sipush (254) dX7_begins_20 (by decide) ?_
      refine k_icmpge 39 dX7_begins_23 (by decide) (fun h23 => ?_) (fun h23 => ?_)
      · exact absurd h23 (nI_ge (b := 254) (by omega) (by decide))
      · refine k_aload_n 0 dX7_begins_26 rfl rfl ?_
        refine k_getfield dX7_begins_27 hc_X7 hM.1.1 hM.1.2 0 (by decide) wF_X7_7 rfl ?_
        refine k_iload_n 2 dX7_begins_30 rfl rfl ?_
        refine k_iconst (0) dX7_begins_31 (by decide) ?_
        refine k_iastoreN (j) dX7_begins_32 hM.2.1.1 hM.2.1.2 (rfl) (⟨by omega, by decide⟩) ?_
        refine k_iinc (nI (j + 1)) (lv' := [(2, _), (0, _), (1, _)]) dX7_begins_33 rfl (kn_inc j) (by decide) rfl ?_
        refine k_goto 19 dX7_begins_36 (by decide) ?_
        have h9 := ih (j + 1) (by omega) (by omega)
        rw [show j + 1 - 12 = (j - 12) + 1 by omega, kg_fill, show 12 + (j - 12) = j by omega] at h9
        exact h9
  refine k_aload_n 0 dX7_begins_0 rfl rfl ?_
  refine k_getfield dX7_begins_1 hc_X7 hM.1.1 hM.1.2 0 (by decide) wF_X7_7 rfl ?_
  refine k_bipush (8) dX7_begins_4 (by decide) ?_
  refine k_iload_n 1 dX7_begins_6 rfl rfl ?_
  refine k_iastoreN (8) dX7_begins_7 hM.2.1.1 hM.2.1.2 (rfl) (⟨by omega, by decide⟩) ?_
  refine k_aload_n 0 dX7_begins_8 rfl rfl ?_
  refine k_getfield dX7_begins_9 hc_X7 hM.1.1 hM.1.2 0 (by decide) wF_X7_7 rfl ?_
  refine k_bipush (9) dX7_begins_12 (by decide) ?_
  refine k_iconst (0) dX7_begins_14 (by decide) ?_
  refine k_iastoreN (9) dX7_begins_15 hM.2.1.1 hM.2.1.2 (rfl) (⟨by omega, by decide⟩) ?_
  refine k_bipush (12) dX7_begins_16 (by decide) ?_
  refine k_istore_n 2 (lv' := [(2, _), (0, _), (1, _)]) dX7_begins_18 rfl (by decide) rfl ?_
  exact lp19 242 12 (by omega) (by omega)

set_option maxRecDepth 100000 in
set_option maxHeartbeats 4000000 in
theorem m_X7_saves {X : kn_X} {σ : kn_S} {τ : kn_T} {z : kn_Z} {c n : Nat} {Q : kn_Q} {sv : Nat} (hM : kn_isM z) (hsv : σ 128 3 = nI sv) (hsv4 : sv ≤ 4) (hQ : Q (.inl none) (kg_saves σ sv) τ z) : kn_Ev X MX7_saves [.ref 128] σ τ z c n Q := by
  refine kn_entry (by decide +kernel) rfl (Nat.le_of_ble_eq_true rfl) ?_
  show kn_Go X MX7_saves 0 [(0, .ref 128)] [] _ _ _ _ _ _
  have lp51 : ∀ r9 : Nat, ∀ (j v9 : Nat) (s9 : kn_S), j + r9 = 254 → v9 ≤ 3 → (∀ k, kg_cpy s9 130 (254 * v9) 129 0 k 128 3 = nI v9) → Q (.inl none) (kn_up (kg_cpy s9 130 (254 * v9) 129 0 254) 128 3 (nI (v9 + 1))) τ z → kn_Go X MX7_saves 51 [(1, .int (nI j)), (0, .ref 128)] [] (kg_cpy s9 130 (254 * v9) 129 0 j) τ z c n Q := by
    intro r9
    induction r9 with
    | zero =>
      intro j v9 s9 hj hv9 hs9 hQ
      obtain rfl : j = 254 := by omega
      refine k_iload_n 1 dX7_saves_51 rfl rfl ?_
      refine k_sipush (254) dX7_saves_52 (by decide) ?_
      refine k_icmpge 85 dX7_saves_55 (by decide) (fun h55 => ?_) (fun h55 => ?_)
      · refine k_aload_n 0 dX7_saves_85 rfl rfl ?_
        refine k_dup dX7_saves_86 rfl ?_
        refine k_getfield dX7_saves_87 hc_X7 hM.1.1 hM.1.2 3 (by decide) wF_X7_31 rfl ?_
        rw [show kn_av (kg_cpy s9 130 (254 * v9) 129 0 254) τ 128 3 none = .int (nI v9) from congrArg Value.int (hs9 254)]
        refine k_iconst (1) dX7_saves_90 (by decide) ?_
        refine k_iadd dX7_saves_91 ?_
        rw [nI_1]
        refine k_putfield dX7_saves_92 hc_X7 hM.1.1 hM.1.2 3 (by decide) wF_X7_31 rfl rfl (t9 := .int) (by decide +kernel) rfl rfl ?_
        refine k_vret dX7_saves_95 rfl ?_
        exact hQ
      · exact absurd (nI_le (Nat.le_refl 254) (by decide)) h55
    | succ r9 ih =>
      intro j v9 s9 hj hv9 hs9 hQ
      refine k_iload_n 1 dX7_saves_51 rfl rfl ?_
      refine k_sipush (254) dX7_saves_52 (by decide) ?_
      refine k_icmpge 85 dX7_saves_55 (by decide) (fun h55 => ?_) (fun h55 => ?_)
      · exact absurd h55 (nI_ge (b := 254) (by omega) (by decide))
      · refine k_aload_n 0 dX7_saves_58 rfl rfl ?_
        refine k_getfield dX7_saves_59 hc_X7 hM.1.1 hM.1.2 1 (by decide) wF_X7_13 rfl ?_
        refine k_sipush (254) dX7_saves_62 (by decide) ?_
        refine k_aload_n 0 dX7_saves_65 rfl rfl ?_
        refine k_getfield dX7_saves_66 hc_X7 hM.1.1 hM.1.2 3 (by decide) wF_X7_31 rfl ?_
        rw [show kn_av (kg_cpy s9 130 (254 * v9) 129 0 j) τ 128 3 none = .int (nI v9) from congrArg Value.int (hs9 j)]
        refine k_imul dX7_saves_69 ?_
        refine k_iload_n 1 dX7_saves_70 rfl rfl ?_
        refine k_iadd dX7_saves_71 ?_
        refine k_aload_n 0 dX7_saves_72 rfl rfl ?_
        refine k_getfield dX7_saves_73 hc_X7 hM.1.1 hM.1.2 0 (by decide) wF_X7_7 rfl ?_
        refine k_iload_n 1 dX7_saves_76 rfl rfl ?_
        refine k_ialoadN (j) dX7_saves_77 hM.2.1.1 hM.2.1.2 (rfl) (⟨by omega, by decide⟩) ?_
        refine k_iastoreN (((254 * v9) + j)) dX7_saves_78 hM.2.2.1.1 hM.2.2.1.2 ((kg_add (kg_mul rfl rfl) rfl)) (⟨by omega, by decide⟩) ?_
        refine k_iinc (nI (j + 1)) (lv' := [(1, _), (0, _)]) dX7_saves_79 rfl (kn_inc j) (by decide) rfl ?_
        refine k_goto 51 dX7_saves_82 (by decide) ?_
        have h9 := ih (j + 1) v9 s9 (by omega) hv9 hs9 hQ
        rw [kg_cpy, Nat.zero_add] at h9
        exact h9
  have lp10 : ∀ r9 : Nat, ∀ j : Nat, j + r9 = 762 → sv = 4 → Q (.inl none) (kn_up (kg_cpy (kn_up (kg_cpy σ 130 0 130 254 762) 128 3 (nI 3)) 130 762 129 0 254) 128 3 (nI 4)) τ z → kn_Go X MX7_saves 10 [(1, .int (nI j)), (0, .ref 128)] [] (kg_cpy σ 130 0 130 254 j) τ z c n Q := by
    intro r9
    induction r9 with
    | zero =>
      intro j hj h4 hQ
      obtain rfl : j = 762 := by omega
      refine k_iload_n 1 dX7_saves_10 rfl rfl ?_
      refine k_sipush (762) dX7_saves_11 (by decide) ?_
      refine k_icmpge 39 dX7_saves_14 (by decide) (fun h14 => ?_) (fun h14 => ?_)
      · refine k_aload_n 0 dX7_saves_39 rfl rfl ?_
        refine k_dup dX7_saves_40 rfl ?_
        refine k_getfield dX7_saves_41 hc_X7 hM.1.1 hM.1.2 3 (by decide) wF_X7_31 rfl ?_
        rw [show kn_av (kg_cpy σ 130 0 130 254 762) τ 128 3 none = .int (nI 4) from congrArg Value.int (by rw [kg_cpy_ne _ (by decide)]; exact h4 ▸ hsv)]
        refine k_iconst (1) dX7_saves_44 (by decide) ?_
        refine k_isub dX7_saves_45 ?_
        rw [show nI 4 - 1 = nI 3 by decide]
        refine k_putfield dX7_saves_46 hc_X7 hM.1.1 hM.1.2 3 (by decide) wF_X7_31 rfl rfl (t9 := .int) (by decide +kernel) rfl rfl ?_
        refine k_iconst (0) dX7_saves_49 (by decide) ?_
        refine k_istore_n 1 (lv' := [(1, _), (0, _)]) dX7_saves_50 rfl (by decide) rfl ?_
        first
          | exact lp51 254 0 3 _ (by omega) (by omega) (fun k => by rw [kg_cpy_ne _ (by decide)]; rfl) hQ
          | (have hn : ¬ sv = 4 := by
               intro h; subst h; exact h5 hsv
             rw [kg_saves, if_neg hn] at hQ
             exact lp51 254 0 sv σ (by omega) (by omega) (fun k => by rw [kg_cpy_ne _ (by decide)]; exact hsv) hQ)
      · exact absurd (nI_le (Nat.le_refl 762) (by decide)) h14
    | succ r9 ih =>
      intro j hj h4 hQ
      refine k_iload_n 1 dX7_saves_10 rfl rfl ?_
      refine k_sipush (762) dX7_saves_11 (by decide) ?_
      refine k_icmpge 39 dX7_saves_14 (by decide) (fun h14 => ?_) (fun h14 => ?_)
      · exact absurd h14 (nI_ge (b := 762) (by omega) (by decide))
      · refine k_aload_n 0 dX7_saves_17 rfl rfl ?_
        refine k_getfield dX7_saves_18 hc_X7 hM.1.1 hM.1.2 1 (by decide) wF_X7_13 rfl ?_
        refine k_iload_n 1 dX7_saves_21 rfl rfl ?_
        refine k_aload_n 0 dX7_saves_22 rfl rfl ?_
        refine k_getfield dX7_saves_23 hc_X7 hM.1.1 hM.1.2 1 (by decide) wF_X7_13 rfl ?_
        refine k_iload_n 1 dX7_saves_26 rfl rfl ?_
        refine k_sipush (254) dX7_saves_27 (by decide) ?_
        refine k_iadd dX7_saves_30 ?_
        refine k_ialoadN ((j + 254)) dX7_saves_31 hM.2.2.1.1 hM.2.2.1.2 ((kg_add rfl rfl)) (⟨by omega, by decide⟩) ?_
        refine k_iastoreN (j) dX7_saves_32 hM.2.2.1.1 hM.2.2.1.2 (rfl) (⟨by omega, by decide⟩) ?_
        refine k_iinc (nI (j + 1)) (lv' := [(1, _), (0, _)]) dX7_saves_33 rfl (kn_inc j) (by decide) rfl ?_
        refine k_goto 10 dX7_saves_36 (by decide) ?_
        have h9 := ih (j + 1) (by omega) h4 hQ
        rw [kg_cpy, Nat.zero_add, Nat.add_comm 254 j] at h9
        exact h9
  refine k_aload_n 0 dX7_saves_0 rfl rfl ?_
  refine k_getfield dX7_saves_1 hc_X7 hM.1.1 hM.1.2 3 (by decide) wF_X7_31 rfl ?_
  refine k_iconst (4) dX7_saves_4 (by decide) ?_
  refine k_icmpne 49 dX7_saves_5 (by decide) (fun h5 => ?_) (fun h5 => ?_)
  · refine k_iconst (0) dX7_saves_49 (by decide) ?_
    refine k_istore_n 1 (lv' := [(1, _), (0, _)]) dX7_saves_50 rfl (by decide) rfl ?_
    first
      | exact lp51 254 0 3 _ (by omega) (by omega) (fun k => by rw [kg_cpy_ne _ (by decide)]; rfl) hQ
      | (have hn : ¬ sv = 4 := by
           intro h; subst h; exact h5 hsv
         rw [kg_saves, if_neg hn] at hQ
         exact lp51 254 0 sv σ (by omega) (by omega) (fun k => by rw [kg_cpy_ne _ (by decide)]; exact hsv) hQ)
  · refine k_iconst (0) dX7_saves_8 (by decide) ?_
    refine k_istore_n 1 (lv' := [(1, _), (0, _)]) dX7_saves_9 rfl (by decide) rfl ?_
    obtain rfl : sv = 4 := by rw [hsv] at h5; exact (nI_eq (b := 4) (by omega) (by decide)).mp h5
    rw [kg_saves, if_pos rfl] at hQ
    exact lp10 762 0 (by omega) rfl hQ

set_option maxRecDepth 100000 in
set_option maxHeartbeats 4000000 in
theorem m_X7_undo {X : kn_X} {σ : kn_S} {τ : kn_T} {z : kn_Z} {c n : Nat} {Q : kn_Q} {sv : Nat} (hM : kn_isM z) (hsv : σ 128 3 = nI sv) (hsv4 : sv ≤ 4) (hQ1 : sv = 0 → Q (.inl (some (.int 0))) (kn_up σ 128 4 1) τ z) (hQ : ∀ w, sv = w + 1 → Q (.inl (some (.int (nI w)))) (kg_undo (kn_up σ 128 4 0) w) τ z) : kn_Ev X MX7_undo [.ref 128] σ τ z c n Q := by
  refine kn_entry (by decide +kernel) rfl (Nat.le_of_ble_eq_true rfl) ?_
  show kn_Go X MX7_undo 0 [(0, .ref 128)] [] _ _ _ _ _ _
  have lp33 : ∀ r9 : Nat, ∀ (j v9 : Nat) (s9 : kn_S), j + r9 = 254 → v9 ≤ 3 → (∀ k, kg_cpy s9 129 0 130 (254 * v9) k 128 3 = nI v9) → Q (.inl (some (.int (nI v9)))) (kg_cpy s9 129 0 130 (254 * v9) 254) τ z → kn_Go X MX7_undo 33 [(1, .int (nI j)), (0, .ref 128)] [] (kg_cpy s9 129 0 130 (254 * v9) j) τ z c n Q := by
    intro r9
    induction r9 with
    | zero =>
      intro j v9 s9 hj hv9 hs9 hQ
      obtain rfl : j = 254 := by omega
      refine k_iload_n 1 dX7_undo_33 rfl rfl ?_
      refine k_sipush (254) dX7_undo_34 (by decide) ?_
      refine k_icmpge 67 dX7_undo_37 (by decide) (fun h37 => ?_) (fun h37 => ?_)
      · refine k_aload_n 0 dX7_undo_67 rfl rfl ?_
        refine k_getfield dX7_undo_68 hc_X7 hM.1.1 hM.1.2 3 (by decide) wF_X7_31 rfl ?_
        rw [show kn_av (kg_cpy s9 129 0 130 (254 * v9) 254) τ 128 3 none = .int (nI v9) from congrArg Value.int (hs9 254)]
        refine k_iret dX7_undo_71 rfl (rfl) ?_
        exact hQ
      · exact absurd (nI_le (Nat.le_refl 254) (by decide)) h37
    | succ r9 ih =>
      intro j v9 s9 hj hv9 hs9 hQ
      refine k_iload_n 1 dX7_undo_33 rfl rfl ?_
      refine k_sipush (254) dX7_undo_34 (by decide) ?_
      refine k_icmpge 67 dX7_undo_37 (by decide) (fun h37 => ?_) (fun h37 => ?_)
      · exact absurd h37 (nI_ge (b := 254) (by omega) (by decide))
      · refine k_aload_n 0 dX7_undo_40 rfl rfl ?_
        refine k_getfield dX7_undo_41 hc_X7 hM.1.1 hM.1.2 0 (by decide) wF_X7_7 rfl ?_
        refine k_iload_n 1 dX7_undo_44 rfl rfl ?_
        refine k_aload_n 0 dX7_undo_45 rfl rfl ?_
        refine k_getfield dX7_undo_46 hc_X7 hM.1.1 hM.1.2 1 (by decide) wF_X7_13 rfl ?_
        refine k_sipush (254) dX7_undo_49 (by decide) ?_
        refine k_aload_n 0 dX7_undo_52 rfl rfl ?_
        refine k_getfield dX7_undo_53 hc_X7 hM.1.1 hM.1.2 3 (by decide) wF_X7_31 rfl ?_
        rw [show kn_av (kg_cpy s9 129 0 130 (254 * v9) j) τ 128 3 none = .int (nI v9) from congrArg Value.int (hs9 j)]
        refine k_imul dX7_undo_56 ?_
        refine k_iload_n 1 dX7_undo_57 rfl rfl ?_
        refine k_iadd dX7_undo_58 ?_
        refine k_ialoadN (((254 * v9) + j)) dX7_undo_59 hM.2.2.1.1 hM.2.2.1.2 ((kg_add (kg_mul rfl rfl) rfl)) (⟨by omega, by decide⟩) ?_
        refine k_iastoreN (j) dX7_undo_60 hM.2.1.1 hM.2.1.2 (rfl) (⟨by omega, by decide⟩) ?_
        refine k_iinc (nI (j + 1)) (lv' := [(1, _), (0, _)]) dX7_undo_61 rfl (kn_inc j) (by decide) rfl ?_
        refine k_goto 33 dX7_undo_64 (by decide) ?_
        have h9 := ih (j + 1) v9 s9 (by omega) hv9 hs9 hQ
        rw [kg_cpy, Nat.zero_add] at h9
        exact h9
  refine k_aload_n 0 dX7_undo_0 rfl rfl ?_
  refine k_aload_n 0 dX7_undo_1 rfl rfl ?_
  refine k_getfield dX7_undo_2 hc_X7 hM.1.1 hM.1.2 3 (by decide) wF_X7_31 rfl ?_
  refine k_ifne 12 dX7_undo_5 (by decide) (fun h5 => ?_) (fun h5 => ?_)
  · refine k_iconst (0) dX7_undo_12 (by decide) ?_
    refine k_invV (As := [_]) dX7_undo_13 mm_X7_refused wL_X7_34 ⟨by decide, by decide⟩ hM.1.1 hM.1.2 rfl rfl (Nat.le_of_ble_eq_true rfl) (Nat.zero_le _) (Nat.zero_le _) (m_X7_refused (r := 0) hM rfl ⟨rfl, ?_⟩)
    refine k_ifeq 21 dX7_undo_16 (by decide) (fun h16 => ?_) (fun h16 => ?_)
    · refine k_aload_n 0 dX7_undo_21 rfl rfl ?_
      refine k_dup dX7_undo_22 rfl ?_
      refine k_getfield dX7_undo_23 hc_X7 hM.1.1 hM.1.2 3 (by decide) wF_X7_31 rfl ?_
      rw [show kn_av (kn_up σ 128 4 0) τ 128 3 none = .int (nI sv) from congrArg Value.int hsv]
      refine k_iconst (1) dX7_undo_26 (by decide) ?_
      refine k_isub dX7_undo_27 ?_
      refine k_putfield dX7_undo_28 hc_X7 hM.1.1 hM.1.2 3 (by decide) wF_X7_31 rfl rfl (t9 := .int) (by decide +kernel) rfl rfl ?_
      refine k_iconst (0) dX7_undo_31 (by decide) ?_
      refine k_istore_n 1 (lv' := [(1, _), (0, _)]) dX7_undo_32 rfl (by decide) rfl ?_
      obtain ⟨w, rfl⟩ : ∃ w, sv = w + 1 := by
        cases sv with
        | zero => exact absurd hsv h5
        | succ w => exact ⟨w, rfl⟩
      have e9 := hQ w rfl
      rw [kg_undo] at e9
      rw [nI_pred]
      exact lp33 254 0 w _ (by omega) (by omega) (fun k => by rw [kg_cpy_ne _ (by decide)]; rfl) e9
    · exact absurd rfl h16
  · refine k_iconst (1) dX7_undo_8 (by decide) ?_
    refine k_goto 13 dX7_undo_9 (by decide) ?_
    refine k_invV (As := [_]) dX7_undo_13 mm_X7_refused wL_X7_34 ⟨by decide, by decide⟩ hM.1.1 hM.1.2 rfl rfl (Nat.le_of_ble_eq_true rfl) (Nat.zero_le _) (Nat.zero_le _) (m_X7_refused (r := 1) hM rfl ⟨rfl, ?_⟩)
    refine k_ifeq 21 dX7_undo_16 (by decide) (fun h16 => ?_) (fun h16 => ?_)
    · exact absurd h16 (by decide)
    · refine k_iconst (0) dX7_undo_19 (by decide) ?_
      refine k_iret dX7_undo_20 rfl (rfl) ?_
      exact hQ1 ((nI_eq (b := 0) (by omega) (by decide)).mp (hsv ▸ h5))
