-- State, made
theorem m_X5_init {X : kn_X} {σ : kn_S} {τ : kn_T} {z : kn_Z} {c n : Nat} {Q : kn_Q} {b : Nat} (h1 : z.1 = b + 1) (hz : z.2 b = .inl (4, [some .null, some .null, some .null, some .null, some .null, some .null, some .null, none, none, none, none, none, none, none, none, none, none]))
    (hQ : ∀ σ9 : kn_S, ∀ τ9 : kn_T, (∀ j, j ≤ b → σ9 j = σ j) → (∀ j, b < j → ∀ k, σ9 j k = 0) → (∀ j, j ≤ b → τ9 j = τ j) → Q (.inl none) (kf_restart (kn_up (kn_up (kf_ini X σ9 b 8) b 15 1) b 16 0) b 4) τ9 (kn_z5 z b)) : kn_Ev X MX5_init [.ref b] σ τ z (c + 19) (n + 260) Q := by
  refine kn_entry (by decide +kernel) rfl (Nat.le_of_ble_eq_true rfl) ?_
  show kn_Go X MX5_init 0 [(0, .ref b)] [] _ _ _ (c + 19) (n + 260) _
  have h := m_X5_cells (X := X) (σ := σ) (τ := τ) (z := z) (c := c) (n := n) (Q := Q) (i := b) (by omega) hz (m_X5_tail (kn_z5_st h1) (hQ _ _ ?_ ?_ ?_))
  · exact h
  all_goals sorry
