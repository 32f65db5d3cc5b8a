-- plain pictures of the small methods
theorem kn_inc (j : Nat) : nI j + Int32.ofInt 1 = nI (j + 1) := nI_1 j
def kf_at (f : Nat → Int32) (len : Nat) (p : Int32) : Int32 := if p < 0 then 0 else if nI len ≤ p then 0 else f p.toNatClampNeg
def kf_put (s : kn_S) (a len : Nat) (p x : Int32) : kn_S := if p < 0 then s else if nI len ≤ p then s else kn_up s a p.toNatClampNeg x
def kf_fill (s : kn_S) (a m : Nat) (x : Int32) : kn_S := fun b k => if b = a ∧ k < m then x else s b k
def kf_cpy (s : kn_S) (a : Nat) (f : Nat → Int32) (m : Nat) : kn_S := fun b k => if b = a ∧ k < m then f k else s b k
def kf_min (x y : Int32) : Int32 := if y < x then y else x
def kf_max (x y : Int32) : Int32 := if x < y then y else x
def kf_b (p : Prop) [Decidable p] : Int32 := if p then 1 else 0
def kn_isRow (z : kn_Z) (i len : Nat) : Prop := (i < z.1 ∧ z.2 i = .inl (3, [some (.ref (i + 1))])) ∧ (i + 1 < z.1 ∧ z.2 (i + 1) = .inr (.inl (0, len)))
def kn_isLog (z : kn_Z) (i : Nat) : Prop := (i < z.1 ∧ z.2 i = .inl (2, [some (.ref (i + 1)), some (.ref (i + 3)), some (.ref (i + 5)), none, none])) ∧ kn_isRow z (i + 1) 60 ∧ kn_isRow z (i + 3) 60 ∧ kn_isRow z (i + 5) 60
def kn_isSt (z : kn_Z) (b : Nat) : Prop := (b < z.1 ∧ z.2 b = .inl (4, [some (.ref (b + 1)), some (.ref (b + 3)), some (.ref (b + 5)), some (.ref (b + 7)), some (.ref (b + 9)), some (.ref (b + 11)), some (.ref (b + 13)), none, none, none, none, none, none, none, none, none, none])) ∧ kn_isRow z (b + 1) 8 ∧ kn_isRow z (b + 3) 8 ∧ kn_isRow z (b + 5) 8 ∧ kn_isRow z (b + 7) 8 ∧ kn_isRow z (b + 9) 8 ∧ kn_isRow z (b + 11) 24 ∧ kn_isLog z (b + 13)
theorem kn_vin {p : Int32} {len : Nat} (hl : len < 2 ^ 31) (h1 : ¬ p < 0) (h2 : ¬ nI len ≤ p) : vp_in p len := by
  obtain ⟨j, hj, rfl⟩ := nI_of h1
  have h3 : ¬ len ≤ j := fun h => h2 ((nI_leI hl hj).mpr h)
  exact vp_in_nI (by omega) hl
theorem kf_at_nI {f : Nat → Int32} {len k : Nat} (hl : len < 2 ^ 31) (h : k < len) : kf_at f len (nI k) = f k := by
  have h2 : k < 2 ^ 31 := by omega
  unfold kf_at
  rw [if_neg (nI_pos h2), if_neg (fun h3 => by have := (nI_leI hl h2).mp h3; omega), nI_clamp h2]
theorem kf_fill_0 (s : kn_S) (a : Nat) (x : Int32) : kf_fill s a 0 x = s := by
  funext b k
  simp [kf_fill]
theorem kf_fill_succ (s : kn_S) (a : Nat) (x : Int32) {m : Nat} (h : m < 2 ^ 31) : kn_up (kf_fill s a m x) a (nI m).toNatClampNeg x = kf_fill s a (m + 1) x := by
  rw [nI_clamp h]
  funext b k
  simp only [kn_up, kf_fill]
  by_cases hb : b = a
  · by_cases hk : k = m
    · subst hk; simp [hb]
    · have : (k < m + 1) = (k < m) := by simp; omega
      simp [hb, hk, this]
  · simp [hb]
theorem kf_cpy_0 (s : kn_S) (a : Nat) (f : Nat → Int32) : kf_cpy s a f 0 = s := by
  funext b k
  simp [kf_cpy]
theorem kf_cpy_succ (s : kn_S) (a : Nat) (f : Nat → Int32) {m : Nat} (h : m < 2 ^ 31) : kn_up (kf_cpy s a f m) a (nI m).toNatClampNeg (f m) = kf_cpy s a f (m + 1) := by
  rw [nI_clamp h]
  funext b k
  simp only [kn_up, kf_cpy]
  by_cases hb : b = a
  · by_cases hk : k = m
    · subst hk; simp [hb]
    · have : (k < m + 1) = (k < m) := by simp; omega
      simp [hb, hk, this]
  · simp [hb]
theorem kf_cpy_src (s : kn_S) (a j m : Nat) : kf_cpy s a (s j) m j m = s j m := by
  simp only [kf_cpy]
  split
  · omega
  · rfl

set_option maxRecDepth 100000 in
set_option maxHeartbeats 4000000 in
theorem m_X4_at {X : kn_X} {σ : kn_S} {τ : kn_T} {z : kn_Z} {c n : Nat} {Q : kn_Q} {i len : Nat} {p : Int32} (hr : kn_isRow z i len) (hl : len < 2 ^ 31) (hQ : Q (.inl (some (.int (kf_at (σ (i + 1)) len p)))) σ τ z) : kn_Ev X MX4_at [.ref i, .int p] σ τ z c n Q := by
  refine kn_entry (by decide +kernel) rfl (Nat.le_of_ble_eq_true rfl) ?_
  show kn_Go X MX4_at 0 [(0, .ref i), (1, .int p)] [] _ _ _ _ _ _
  refine k_iload_n 1 dX4_at_0 rfl rfl ?_
  refine k_iflt 22 dX4_at_1 (by decide) (fun h1 => ?_) (fun h1 => ?_)
  · refine k_iconst (0) dX4_at_22 (by decide) ?_
    refine k_iret dX4_at_23 rfl (rfl) ?_
    simp only [kf_at, h1, if_true] at hQ; exact hQ
  · refine k_iload_n 1 dX4_at_4 rfl rfl ?_
    refine k_aload_n 0 dX4_at_5 rfl rfl ?_
    refine k_getfield dX4_at_6 hc_X4 hr.1.1 hr.1.2 0 (by decide) wF_X4_13 rfl ?_
    refine k_alenI dX4_at_9 hr.2.1 hr.2.2 ?_
    refine k_icmpge 22 dX4_at_10 (by decide) (fun h10 => ?_) (fun h10 => ?_)
    · refine k_iconst (0) dX4_at_22 (by decide) ?_
      refine k_iret dX4_at_23 rfl (rfl) ?_
      simp only [kf_at, h1, h10, if_true, if_false] at hQ; exact hQ
    · refine k_aload_n 0 dX4_at_13 rfl rfl ?_
      refine k_getfield dX4_at_14 hc_X4 hr.1.1 hr.1.2 0 (by decide) wF_X4_13 rfl ?_
      refine k_iload_n 1 dX4_at_17 rfl rfl ?_
      refine k_iaload dX4_at_18 hr.2.1 hr.2.2 (kn_vin hl h1 h10) ?_
      refine k_goto 23 dX4_at_19 (by decide) ?_
      refine k_iret dX4_at_23 rfl (rfl) ?_
      simp only [kf_at, h1, h10, if_true, if_false] at hQ; exact hQ

set_option maxRecDepth 100000 in
set_option maxHeartbeats 4000000 in
theorem m_X4_put {X : kn_X} {σ : kn_S} {τ : kn_T} {z : kn_Z} {c n : Nat} {Q : kn_Q} {i len : Nat} {p x : Int32} (hr : kn_isRow z i len) (hl : len < 2 ^ 31) (hQ : Q (.inl none) (kf_put σ (i + 1) len p x) τ z) : kn_Ev X MX4_put [.ref i, .int p, .int x] σ τ z c n Q := by
  refine kn_entry (by decide +kernel) rfl (Nat.le_of_ble_eq_true rfl) ?_
  show kn_Go X MX4_put 0 [(0, .ref i), (1, .int p), (2, .int x)] [] _ _ _ _ _ _
  refine k_iload_n 1 dX4_put_0 rfl rfl ?_
  refine k_iflt 20 dX4_put_1 (by decide) (fun h1 => ?_) (fun h1 => ?_)
  · refine k_vret dX4_put_20 rfl ?_
    simp only [kf_put, h1, if_true] at hQ; exact hQ
  · refine k_iload_n 1 dX4_put_4 rfl rfl ?_
    refine k_aload_n 0 dX4_put_5 rfl rfl ?_
    refine k_getfield dX4_put_6 hc_X4 hr.1.1 hr.1.2 0 (by decide) wF_X4_13 rfl ?_
    refine k_alenI dX4_put_9 hr.2.1 hr.2.2 ?_
    refine k_icmpge 20 dX4_put_10 (by decide) (fun h10 => ?_) (fun h10 => ?_)
    · refine k_vret dX4_put_20 rfl ?_
      simp only [kf_put, h1, h10, if_true, if_false] at hQ; exact hQ
    · refine k_aload_n 0 dX4_put_13 rfl rfl ?_
      refine k_getfield dX4_put_14 hc_X4 hr.1.1 hr.1.2 0 (by decide) wF_X4_13 rfl ?_
      refine k_iload_n 1 dX4_put_17 rfl rfl ?_
      refine k_iload_n 2 dX4_put_18 rfl rfl ?_
      refine k_iastore dX4_put_19 hr.2.1 hr.2.2 (kn_vin hl h1 h10) ?_
      refine k_vret dX4_put_20 rfl ?_
      simp only [kf_put, h1, h10, if_true, if_false] at hQ; exact hQ

set_option maxRecDepth 100000 in
set_option maxHeartbeats 4000000 in
theorem m_X4_raise {X : kn_X} {σ : kn_S} {τ : kn_T} {z : kn_Z} {c n : Nat} {Q : kn_Q} {i len : Nat} {p x : Int32} (hr : kn_isRow z i len) (hl : len < 2 ^ 31) (hQ : Q (.inl none) (kf_put σ (i + 1) len p (σ (i + 1) p.toNatClampNeg + x)) τ z) : kn_Ev X MX4_raise [.ref i, .int p, .int x] σ τ z c n Q := by
  refine kn_entry (by decide +kernel) rfl (Nat.le_of_ble_eq_true rfl) ?_
  show kn_Go X MX4_raise 0 [(0, .ref i), (1, .int p), (2, .int x)] [] _ _ _ _ _ _
  refine k_iload_n 1 dX4_raise_0 rfl rfl ?_
  refine k_iflt 23 dX4_raise_1 (by decide) (fun h1 => ?_) (fun h1 => ?_)
  · refine k_vret dX4_raise_23 rfl ?_
    simp only [kf_put, h1, if_true] at hQ; exact hQ
  · refine k_iload_n 1 dX4_raise_4 rfl rfl ?_
    refine k_aload_n 0 dX4_raise_5 rfl rfl ?_
    refine k_getfield dX4_raise_6 hc_X4 hr.1.1 hr.1.2 0 (by decide) wF_X4_13 rfl ?_
    refine k_alenI dX4_raise_9 hr.2.1 hr.2.2 ?_
    refine k_icmpge 23 dX4_raise_10 (by decide) (fun h10 => ?_) (fun h10 => ?_)
    · refine k_vret dX4_raise_23 rfl ?_
      simp only [kf_put, h1, h10, if_true, if_false] at hQ; exact hQ
    · refine k_aload_n 0 dX4_raise_13 rfl rfl ?_
      refine k_getfield dX4_raise_14 hc_X4 hr.1.1 hr.1.2 0 (by decide) wF_X4_13 rfl ?_
      refine k_iload_n 1 dX4_raise_17 rfl rfl ?_
      refine k_dup2 dX4_raise_18 rfl rfl ?_
      refine k_iaload dX4_raise_19 hr.2.1 hr.2.2 (kn_vin hl h1 h10) ?_
      refine k_iload_n 2 dX4_raise_20 rfl rfl ?_
      refine k_iadd dX4_raise_21 ?_
      refine k_iastore dX4_raise_22 hr.2.1 hr.2.2 (kn_vin hl h1 h10) ?_
      refine k_vret dX4_raise_23 rfl ?_
      simp only [kf_put, h1, h10, if_true, if_false] at hQ; exact hQ

set_option maxRecDepth 100000 in
set_option maxHeartbeats 4000000 in
theorem m_X4_fill {X : kn_X} {σ : kn_S} {τ : kn_T} {z : kn_Z} {c n : Nat} {Q : kn_Q} {i len : Nat} {x : Int32} (hr : kn_isRow z i len) (hl : len < 2 ^ 31) (hQ : Q (.inl none) (kf_fill σ (i + 1) len x) τ z) : kn_Ev X MX4_fill [.ref i, .int x] σ τ z c n Q := by
  refine kn_entry (by decide +kernel) rfl (Nat.le_of_ble_eq_true rfl) ?_
  show kn_Go X MX4_fill 0 [(0, .ref i), (1, .int x)] [] _ _ _ _ _ _
  have lp2 : ∀ r9 : Nat, ∀ j : Nat, j ≤ len → len + 1 ≤ j + r9 → kn_Go X MX4_fill 2 [(2, .int (nI j)), (0, .ref i), (1, .int x)] [] (kf_fill σ (i + 1) j x) τ z c n Q := by
    intro r9
    induction r9 with
    | zero =>
      intro j hj0 hr9
      exact absurd hr9 (by omega)
    | succ r9 ih =>
      intro j hj0 hr9
      refine k_iload_n 2 dX4_fill_2 rfl rfl ?_
      refine k_aload_n 0 dX4_fill_3 rfl rfl ?_
      refine k_getfield dX4_fill_4 hc_X4 hr.1.1 hr.1.2 0 (by decide) wF_X4_13 rfl ?_
      refine k_alenI dX4_fill_7 hr.2.1 hr.2.2 ?_
      refine k_icmpge 24 dX4_fill_8 (by decide) (fun h8 => ?_) (fun h8 => ?_)
      · have hj : j = len := by have := (nI_leI hl (by omega)).mp h8; omega
        subst hj
        refine k_vret dX4_fill_24 rfl ?_
        exact hQ
      · have hlt : j < len := by rcases Nat.lt_or_ge j len with q | q; exact q; exact absurd (nI_le q (by omega)) h8
        refine k_aload_n 0 dX4_fill_11 rfl rfl ?_
        refine k_getfield dX4_fill_12 hc_X4 hr.1.1 hr.1.2 0 (by decide) wF_X4_13 rfl ?_
        refine k_iload_n 2 dX4_fill_15 rfl rfl ?_
        refine k_iload_n 1 dX4_fill_16 rfl rfl ?_
        refine k_iastore dX4_fill_17 hr.2.1 hr.2.2 (vp_in_nI hlt hl) ?_
        refine k_iinc (nI (j + 1)) (lv' := [(2, _), (0, _), (1, _)]) dX4_fill_18 rfl (kn_inc j) (by decide) rfl ?_
        refine k_goto 2 dX4_fill_21 (by decide) ?_
        rw [kf_fill_succ σ (i + 1) x (by omega)]
        exact ih (j + 1) (by omega) (by omega)
  refine k_iconst (0) dX4_fill_0 (by decide) ?_
  refine k_istore_n 2 (lv' := [(2, _), (0, _), (1, _)]) dX4_fill_1 rfl (by decide) rfl ?_
  have e0 := kf_fill_0 σ (i + 1) x
  rw [← e0]
  exact lp2 (len + 1) 0 (Nat.zero_le _) (by omega)

set_option maxRecDepth 100000 in
set_option maxHeartbeats 4000000 in
theorem m_X4_copy {X : kn_X} {σ : kn_S} {τ : kn_T} {z : kn_Z} {c n : Nat} {Q : kn_Q} {i i2 len : Nat} (hr : kn_isRow z i len) (hr2 : kn_isRow z i2 len) (hl : len < 2 ^ 31) (hQ : Q (.inl none) (kf_cpy σ (i + 1) (σ (i2 + 1)) len) τ z) : kn_Ev X MX4_copy [.ref i, .ref i2] σ τ z c n Q := by
  refine kn_entry (by decide +kernel) rfl (Nat.le_of_ble_eq_true rfl) ?_
  show kn_Go X MX4_copy 0 [(0, .ref i), (1, .ref i2)] [] _ _ _ _ _ _
  have lp2 : ∀ r9 : Nat, ∀ j : Nat, j ≤ len → len + 1 ≤ j + r9 → kn_Go X MX4_copy 2 [(2, .int (nI j)), (0, .ref i), (1, .ref i2)] [] (kf_cpy σ (i + 1) (σ (i2 + 1)) j) τ z c n Q := by
    intro r9
    induction r9 with
    | zero =>
      intro j hj0 hr9
      exact absurd hr9 (by omega)
    | succ r9 ih =>
      intro j hj0 hr9
      refine k_iload_n 2 dX4_copy_2 rfl rfl ?_
      refine k_aload_n 0 dX4_copy_3 rfl rfl ?_
      refine k_getfield dX4_copy_4 hc_X4 hr.1.1 hr.1.2 0 (by decide) wF_X4_13 rfl ?_
      refine k_alenI dX4_copy_7 hr.2.1 hr.2.2 ?_
      refine k_icmpge 28 dX4_copy_8 (by decide) (fun h8 => ?_) (fun h8 => ?_)
      · have hj : j = len := by have := (nI_leI hl (by omega)).mp h8; omega
        subst hj
        refine k_vret dX4_copy_28 rfl ?_
        exact hQ
      · have hlt : j < len := by rcases Nat.lt_or_ge j len with q | q; exact q; exact absurd (nI_le q (by omega)) h8
        refine k_aload_n 0 dX4_copy_11 rfl rfl ?_
        refine k_getfield dX4_copy_12 hc_X4 hr.1.1 hr.1.2 0 (by decide) wF_X4_13 rfl ?_
        refine k_iload_n 2 dX4_copy_15 rfl rfl ?_
        refine k_aload_n 1 dX4_copy_16 rfl rfl ?_
        refine k_iload_n 2 dX4_copy_17 rfl rfl ?_
        refine k_invV (As := [_]) dX4_copy_18 mm_X4_at wL_X4_19 ⟨by decide, by decide⟩ hr2.1.1 hr2.1.2 rfl rfl (Nat.le_of_ble_eq_true rfl) (Nat.zero_le _) (Nat.zero_le _) (m_X4_at hr2 hl ⟨rfl, ?_⟩)
        refine k_iastore dX4_copy_21 hr.2.1 hr.2.2 (vp_in_nI hlt hl) ?_
        refine k_iinc (nI (j + 1)) (lv' := [(2, _), (0, _), (1, _)]) dX4_copy_22 rfl (kn_inc j) (by decide) rfl ?_
        refine k_goto 2 dX4_copy_25 (by decide) ?_
        rw [kf_at_nI hl hlt, kf_cpy_src σ (i + 1) (i2 + 1) j, kf_cpy_succ σ (i + 1) (σ (i2 + 1)) (by omega)]
        exact ih (j + 1) (by omega) (by omega)
  refine k_iconst (0) dX4_copy_0 (by decide) ?_
  refine k_istore_n 2 (lv' := [(2, _), (0, _), (1, _)]) dX4_copy_1 rfl (by decide) rfl ?_
  have e0 := kf_cpy_0 σ (i + 1) (σ (i2 + 1))
  rw [← e0]
  exact lp2 (len + 1) 0 (Nat.zero_le _) (by omega)

