-- State, made
set_option maxRecDepth 100000 in
set_option maxHeartbeats 4000000 in
theorem m_X5_init {X : kn_X} {σ : kn_S} {τ : kn_T} {z : kn_Z} {c n : Nat} {Q : kn_Q} {b : Nat} (h1 : z.1 = b + 1) (hz : z.2 b = .inl (4, [some .null, some .null, some .null, some .null, some .null, some .null, some .null, none, none, none, none, none, none, none, none, none, none]))
    (hQ : ∀ σ9 : kn_S, ∀ τ9 : kn_T, (∀ j, j ≤ b ∨ b + 20 ≤ j → σ9 j = σ j) → (∀ j k, b < j → j < b + 20 → σ9 j k = 0) → (∀ j, j ≤ b ∨ b + 20 ≤ j → τ9 j = τ j) → Q (.inl none) (kf_restart (kn_up (kn_up (kf_ini X σ9 b 8) b 15 1) b 16 0) b 4) τ9 (kn_z5 z b)) : kn_Ev X MX5_init [.ref b] σ τ z (c + 6 + 1 + 1 + 1 + 1 + 1 + 1 + 1 + 1 + 1 + 1 + 1 + 1 + 1) (n + 183 + 5 + 24 + 1 + 8 + 1 + 8 + 1 + 8 + 1 + 8 + 1 + 8 + 1) Q := by
  refine kn_entry (by decide +kernel) rfl (Nat.le_of_ble_eq_true rfl) ?_
  show kn_Go X MX5_init 0 [(0, .ref b)] [] _ _ _ _ _ _
  refine m_X5_cells (by omega) hz (m_X5_tail (kn_z5_st h1) (hQ _ _ ?_ ?_ ?_))
  · intro j hj
    funext k
    simp only [h1, kn_lS, kn_nS, kn_zS]
    repeat rw [if_neg (by omega)]
  · intro j k h2 h3
    simp only [h1, kn_lS, kn_nS, kn_zS]
    simp only [ite_eq_left_iff]
    intros
    exfalso
    omega
  · intro j hj
    funext k
    simp only [h1, kn_lT, kn_nT, kn_zT]
    repeat rw [if_neg (by omega)]

