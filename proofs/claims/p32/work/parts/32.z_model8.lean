-- the model: its firings out of the text
theorem kg_n01 {k : Nat} (h : k ≤ 1) : kn_01 (nI k) := by
  rcases Nat.eq_zero_or_pos k with q | q
  · subst q; exact Or.inl rfl
  · obtain rfl : k = 1 := by omega
    exact Or.inr rfl
theorem kg_rds_1 (s : kn_S) (len sp : Nat) (be : Int32) : (kg_rds s len sp be).1 ≤ 1 := (kg_rb_le s len sp _ be).1
theorem kg_n0 {k : Nat} (h : k ≤ 1) : nI k = 0 ↔ k = 0 := nI_eq (b := 0) (by omega) (by decide)
theorem kg_rf_lo (s : kn_S) (len sp : Nat) {j : Nat} (h : j ≤ 6) : (kg_rf s len sp).2.2 128 j = s 128 j := by
  have hp : ∀ (t : kn_S) (q : Nat) (nu : Int32), kg_p t q nu 128 j = t 128 j := by
    intro t q nu
    rw [kg_p, kn_upk (by omega), kn_upk (by omega)]
  unfold kg_rf
  split
  · exact hp _ _ _
  dsimp only
  split
  · show kg_p _ _ _ 128 j = _
    rw [hp, kn_upk (by omega), hp]
  · show kn_up _ 128 11 _ 128 j = _
    rw [kn_upk (by omega), hp, kn_upk (by omega), hp, kn_upk (by omega), hp]
theorem kg_rf_7 (s : kn_S) (len sp : Nat) : (kg_rf s len sp).2.2 128 7 = nI (kg_rf s len sp).2.1 := by
  unfold kg_rf
  split
  · rfl
  dsimp only
  split
  · rfl
  · rfl
theorem kg_rf_ne (s : kn_S) (len sp : Nat) {b : Nat} (h : b ≠ 128) : (kg_rf s len sp).2.2 b = s b := by
  have hp : ∀ (t : kn_S) (q : Nat) (nu : Int32), kg_p t q nu b = t b := by
    intro t q nu
    rw [kg_p, kn_up_ne _ _ _ h, kn_up_ne _ _ _ h]
  unfold kg_rf
  split
  · exact hp _ _ _
  dsimp only
  split
  · show kg_p _ _ _ b = _
    rw [hp, kn_up_ne _ _ _ h, hp]
  · show kn_up _ 128 11 _ b = _
    rw [kn_up_ne _ _ _ h, hp, kn_up_ne _ _ _ h, hp, kn_up_ne _ _ _ h, hp]
theorem kg_rf_le (s : kn_S) (len sp : Nat) (h : sp ≤ len) : (kg_rf s len sp).1 ≤ 1 ∧ (kg_rf s len sp).2.1 ≤ len ∧ (¬ (kg_rf s len sp).1 = 0 → sp < (kg_rf s len sp).2.1) := by
  have h1 := kg_rds_le s len sp 32 h
  unfold kg_rf
  split
  · exact ⟨Nat.zero_le _, h1.2.1, fun q => absurd rfl q⟩
  rename_i q1
  dsimp only
  generalize kn_up (kg_p s (kg_rds s len sp 32).2.1 (kg_rds s len sp 32).2.2) 128 9 (kg_rds s len sp 32).2.2 = s1
  have h2 := kg_rds_le s1 len (kg_rds s len sp 32).2.1 32 h1.2.1
  have h3 := h1.2.2 q1
  split
  · exact ⟨Nat.zero_le _, h2.2.1, fun q => absurd rfl q⟩
  generalize kn_up (kg_p s1 (kg_rds s1 len (kg_rds s len sp 32).2.1 32).2.1 (kg_rds s1 len (kg_rds s len sp 32).2.1 32).2.2) 128 10 (kg_rds s1 len (kg_rds s len sp 32).2.1 32).2.2 = s2
  have h4 := kg_rds_le s2 len (kg_rds s1 len (kg_rds s len sp 32).2.1 32).2.1 59 h2.2.1
  exact ⟨kg_rds_1 _ _ _ _, h4.2.1, fun q => by have := h4.1; have := h2.1; show sp < (kg_rds s2 len (kg_rds s1 len (kg_rds s len sp 32).2.1 32).2.1 59).2.1; omega⟩
def kg_rpA (len : Nat) : Nat → Nat → kn_S → Nat × Nat × kn_S
  | 0, sp, s => (0, sp, s)
  | r + 1, sp, s => if len ≤ sp then (0, sp, s) else if (kg_rf s len sp).1 = 0 then (1, (kg_rf s len sp).2.1, (kg_rf s len sp).2.2) else kg_rpA len r (kg_rf s len sp).2.1 (kg_rf s len sp).2.2
def kg_fok (s : kn_S) : Int32 := if kf_isOp (s 128 9) (s 128 10) = 0 then 0 else if kf_within (s 128 11) 0 20000 = 0 then 0 else 1
def kg_rpB (len : Nat) : Nat → Nat → Nat → kn_S → Nat × Nat × kn_S
  | 0, _, n, s => (0, n, s)
  | r + 1, sp, n, s => if len ≤ sp then (0, n, s) else if (kg_rf s len sp).1 = 0 then (1, n, (kg_rf s len sp).2.2) else if kg_fok (kg_rf s len sp).2.2 = 0 then (1, n, (kg_rf s len sp).2.2) else kg_rpB len r (kg_rf s len sp).2.1 (n + 1) (kg_rf s len sp).2.2
def kg_cl (s : kn_S) : Nat := (kf_cell (s 128 9) (s 128 10)).toNatClampNeg
def kg_rpC (len m : Nat) : Nat → Nat → kn_S → kn_S
  | 0, _, s => s
  | r + 1, sp, s => if len ≤ sp then s else if (kg_rf s len sp).1 = 0 then (kg_rf s len sp).2.2 else kg_rpC len m r (kg_rf s len sp).2.1 (kg_tr (kg_rf s len sp).2.2 m (kg_cl (kg_rf s len sp).2.2) ((kg_rf s len sp).2.2 128 11))
/-- what the firings out of the text ask, one behind the other -/
def kg_okC (len m : Nat) : Nat → Nat → kn_S → Prop
  | 0, _, _ => True
  | r + 1, sp, s => len ≤ sp ∨ (kg_rf s len sp).1 = 0 ∨ ((kf_cell ((kg_rf s len sp).2.2 128 9) ((kg_rf s len sp).2.2 128 10) = nI (kg_cl (kg_rf s len sp).2.2) ∧ kg_cl (kg_rf s len sp).2.2 < 24 ∧ kg_tp (kg_rf s len sp).2.2 m (kg_cl (kg_rf s len sp).2.2) ((kg_rf s len sp).2.2 128 11)) ∧ kg_okC len m r (kg_rf s len sp).2.1 (kg_tr (kg_rf s len sp).2.2 m (kg_cl (kg_rf s len sp).2.2) ((kg_rf s len sp).2.2 128 11)))
theorem kg_saves_6 (s : kn_S) (sv : Nat) : kg_saves s sv 128 6 = s 128 6 := by
  unfold kg_saves
  split
  · rw [kn_upk (by decide), kg_cpy_ne _ (by decide), kn_upk (by decide), kg_cpy_ne _ (by decide)]
  · rw [kn_upk (by decide), kg_cpy_ne _ (by decide)]

