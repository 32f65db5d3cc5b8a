-- a control copied, begun anew, saved and taken back
theorem kf_cpy_ne {s : kn_S} {a b m : Nat} {f : Nat → Int32} (h : a ≠ b) : kf_cpy s b f m a = s a := by
  funext k
  simp [kf_cpy, h]
theorem kf_cpy_at {s : kn_S} {a k m : Nat} {f : Nat → Int32} (h : k < m) : kf_cpy s a f m a k = f k := by
  simp [kf_cpy, h]
section KRC
variable {s t : kn_S} {b b2 m fi k : Nat} {g : Nat → Int32}
theorem kr_cs1_ne {a : Nat} (h : a < b + 2 ∨ b + 20 ≤ a) : kf_cs1 s b b2 a = s a := by
  dsimp only [kf_cs1, kf_logcpy]
  rw [kn_up_ne _ _ _ (by omega), kn_up_ne _ _ _ (by omega), kf_cpy_ne (by omega), kf_cpy_ne (by omega), kf_cpy_ne (by omega), kf_cpy_ne (by omega), kf_cpy_ne (by omega), kf_cpy_ne (by omega), kf_cpy_ne (by omega), kf_cpy_ne (by omega), kf_cpy_ne (by omega)]
theorem kr_cpy_b (hd : b2 + 20 ≤ b ∨ b + 20 ≤ b2) {j : Nat} (h1 : 7 ≤ j) (h2 : j ≤ 16) : kf_cpySt s b b2 b j = s b2 j := by
  have hne : b2 ≠ b := by omega
  have e : ∀ j, kf_cs1 s b b2 b2 j = s b2 j := fun j => congrFun (kr_cs1_ne (by omega)) j
  have : j = 7 ∨ j = 8 ∨ j = 9 ∨ j = 10 ∨ j = 11 ∨ j = 12 ∨ j = 13 ∨ j = 14 ∨ j = 15 ∨ j = 16 := by omega
  rcases this with rfl | rfl | rfl | rfl | rfl | rfl | rfl | rfl | rfl | rfl <;> simp [kf_cpySt, kf_cs3, kf_cs2, kn_up, hne, e]
theorem kr_cpy_r {a : Nat} (h : a ≠ b) : kf_cpySt s b b2 a = kf_cs1 s b b2 a := by
  dsimp only [kf_cpySt, kf_cs3, kf_cs2]
  rw [kn_up_ne _ _ _ h, kn_up_ne _ _ _ h, kn_up_ne _ _ _ h, kn_up_ne _ _ _ h, kn_up_ne _ _ _ h, kn_up_ne _ _ _ h, kn_up_ne _ _ _ h, kn_up_ne _ _ _ h, kn_up_ne _ _ _ h, kn_up_ne _ _ _ h]
theorem kr_cpy_2 (hd : b2 + 20 ≤ b ∨ b + 20 ≤ b2) (hk : k < 8) : kf_cpySt s b b2 (b + 2) k = s (b2 + 2) k := by
  rw [kr_cpy_r (by omega)]
  dsimp only [kf_cs1, kf_logcpy]
  rw [kn_up_ne _ _ _ (by omega), kn_up_ne _ _ _ (by omega), kf_cpy_ne (by omega), kf_cpy_ne (by omega), kf_cpy_ne (by omega), kf_cpy_ne (by omega), kf_cpy_ne (by omega), kf_cpy_ne (by omega), kf_cpy_ne (by omega), kf_cpy_ne (by omega), kf_cpy_at hk]
theorem kr_cpy_4 (hd : b2 + 20 ≤ b ∨ b + 20 ≤ b2) (hk : k < 8) : kf_cpySt s b b2 (b + 4) k = s (b2 + 4) k := by
  rw [kr_cpy_r (by omega)]
  dsimp only [kf_cs1, kf_logcpy]
  rw [kn_up_ne _ _ _ (by omega), kn_up_ne _ _ _ (by omega), kf_cpy_ne (by omega), kf_cpy_ne (by omega), kf_cpy_ne (by omega), kf_cpy_ne (by omega), kf_cpy_ne (by omega), kf_cpy_ne (by omega), kf_cpy_ne (by omega), kf_cpy_at hk, kf_cpy_ne (by omega)]
theorem kr_cpy_6 (hd : b2 + 20 ≤ b ∨ b + 20 ≤ b2) (hk : k < 8) : kf_cpySt s b b2 (b + 6) k = s (b2 + 6) k := by
  rw [kr_cpy_r (by omega)]
  dsimp only [kf_cs1, kf_logcpy]
  rw [kn_up_ne _ _ _ (by omega), kn_up_ne _ _ _ (by omega), kf_cpy_ne (by omega), kf_cpy_ne (by omega), kf_cpy_ne (by omega), kf_cpy_ne (by omega), kf_cpy_ne (by omega), kf_cpy_ne (by omega), kf_cpy_at hk, kf_cpy_ne (by omega), kf_cpy_ne (by omega)]
theorem kr_cpy_8 (hd : b2 + 20 ≤ b ∨ b + 20 ≤ b2) (hk : k < 8) : kf_cpySt s b b2 (b + 8) k = s (b2 + 8) k := by
  rw [kr_cpy_r (by omega)]
  dsimp only [kf_cs1, kf_logcpy]
  rw [kn_up_ne _ _ _ (by omega), kn_up_ne _ _ _ (by omega), kf_cpy_ne (by omega), kf_cpy_ne (by omega), kf_cpy_ne (by omega), kf_cpy_ne (by omega), kf_cpy_ne (by omega), kf_cpy_at hk, kf_cpy_ne (by omega), kf_cpy_ne (by omega), kf_cpy_ne (by omega)]
theorem kr_cpy_10 (hd : b2 + 20 ≤ b ∨ b + 20 ≤ b2) (hk : k < 8) : kf_cpySt s b b2 (b + 10) k = s (b2 + 10) k := by
  rw [kr_cpy_r (by omega)]
  dsimp only [kf_cs1, kf_logcpy]
  rw [kn_up_ne _ _ _ (by omega), kn_up_ne _ _ _ (by omega), kf_cpy_ne (by omega), kf_cpy_ne (by omega), kf_cpy_ne (by omega), kf_cpy_ne (by omega), kf_cpy_at hk, kf_cpy_ne (by omega), kf_cpy_ne (by omega), kf_cpy_ne (by omega), kf_cpy_ne (by omega)]
theorem kr_cpy_12 (hd : b2 + 20 ≤ b ∨ b + 20 ≤ b2) (hk : k < 24) : kf_cpySt s b b2 (b + 12) k = s (b2 + 12) k := by
  rw [kr_cpy_r (by omega)]
  dsimp only [kf_cs1, kf_logcpy]
  rw [kn_up_ne _ _ _ (by omega), kn_up_ne _ _ _ (by omega), kf_cpy_ne (by omega), kf_cpy_ne (by omega), kf_cpy_ne (by omega), kf_cpy_at hk, kf_cpy_ne (by omega), kf_cpy_ne (by omega), kf_cpy_ne (by omega), kf_cpy_ne (by omega), kf_cpy_ne (by omega)]
theorem kr_cpy_15 (hd : b2 + 20 ≤ b ∨ b + 20 ≤ b2) (hk : k < 60) : kf_cpySt s b b2 (b + 13 + 2) k = s (b2 + 13 + 2) k := by
  rw [kr_cpy_r (by omega)]
  dsimp only [kf_cs1, kf_logcpy]
  rw [kn_up_ne _ _ _ (by omega), kn_up_ne _ _ _ (by omega), kf_cpy_ne (by omega), kf_cpy_ne (by omega), kf_cpy_at hk, kf_cpy_ne (by omega), kf_cpy_ne (by omega), kf_cpy_ne (by omega), kf_cpy_ne (by omega), kf_cpy_ne (by omega), kf_cpy_ne (by omega)]
theorem kr_cpy_17 (hd : b2 + 20 ≤ b ∨ b + 20 ≤ b2) (hk : k < 60) : kf_cpySt s b b2 (b + 13 + 4) k = s (b2 + 13 + 4) k := by
  rw [kr_cpy_r (by omega)]
  dsimp only [kf_cs1, kf_logcpy]
  rw [kn_up_ne _ _ _ (by omega), kn_up_ne _ _ _ (by omega), kf_cpy_ne (by omega), kf_cpy_at hk, kf_cpy_ne (by omega), kf_cpy_ne (by omega), kf_cpy_ne (by omega), kf_cpy_ne (by omega), kf_cpy_ne (by omega), kf_cpy_ne (by omega), kf_cpy_ne (by omega)]
theorem kr_cpy_19 (hd : b2 + 20 ≤ b ∨ b + 20 ≤ b2) (hk : k < 60) : kf_cpySt s b b2 (b + 13 + 6) k = s (b2 + 13 + 6) k := by
  rw [kr_cpy_r (by omega)]
  dsimp only [kf_cs1, kf_logcpy]
  rw [kn_up_ne _ _ _ (by omega), kn_up_ne _ _ _ (by omega), kf_cpy_at hk, kf_cpy_ne (by omega), kf_cpy_ne (by omega), kf_cpy_ne (by omega), kf_cpy_ne (by omega), kf_cpy_ne (by omega), kf_cpy_ne (by omega), kf_cpy_ne (by omega), kf_cpy_ne (by omega)]
theorem kr_cpy_13 (hd : b2 + 20 ≤ b ∨ b + 20 ≤ b2) (hk : k = 3 ∨ k = 4) : kf_cpySt s b b2 (b + 13) k = s (b2 + 13) k := by
  have hne : b2 + 13 ≠ b + 13 := by omega
  rw [kr_cpy_r (by omega)]
  dsimp only [kf_cs1, kf_logcpy]
  rcases hk with rfl | rfl
  · rw [kn_upk (by decide), kn_up_row]
    show (if 3 = 3 then _ else _) = _
    rw [if_pos rfl, kf_cpy_ne (by omega), kf_cpy_ne (by omega), kf_cpy_ne (by omega), kf_cpy_ne (by omega), kf_cpy_ne (by omega), kf_cpy_ne (by omega), kf_cpy_ne (by omega), kf_cpy_ne (by omega), kf_cpy_ne (by omega)]
  · rw [kn_up_row]
    show (if 4 = 4 then _ else _) = _
    rw [if_pos rfl, kn_up_ne _ _ _ hne, kf_cpy_ne (by omega), kf_cpy_ne (by omega), kf_cpy_ne (by omega), kf_cpy_ne (by omega), kf_cpy_ne (by omega), kf_cpy_ne (by omega), kf_cpy_ne (by omega), kf_cpy_ne (by omega), kf_cpy_ne (by omega)]
theorem kr_q0 : ∀ k, k < 17 → 8 ≤ k → kr_o k = 0 ∧ 7 ≤ kr_q k ∧ kr_q k ≤ 16 := by decide +kernel
/-- k, by where the class keeps it -/
theorem kr_cases {k : Nat} (hk : k < 73) : k < 8 ∨ (8 ≤ k ∧ k < 17) ∨ (∃ c, c < 8 ∧ k = 17 + c) ∨ (∃ c, c < 8 ∧ k = 25 + c) ∨ (∃ c, c < 8 ∧ k = 33 + c) ∨ (∃ c, c < 8 ∧ k = 41 + c) ∨ (∃ c, c < 24 ∧ k = 49 + c) := by
  by_cases h1 : k < 8
  · exact Or.inl h1
  by_cases h2 : k < 17
  · exact Or.inr (Or.inl ⟨by omega, h2⟩)
  by_cases h3 : k < 25
  · exact Or.inr (Or.inr (Or.inl ⟨k - 17, by omega, by omega⟩))
  by_cases h4 : k < 33
  · exact Or.inr (Or.inr (Or.inr (Or.inl ⟨k - 25, by omega, by omega⟩)))
  by_cases h5 : k < 41
  · exact Or.inr (Or.inr (Or.inr (Or.inr (Or.inl ⟨k - 33, by omega, by omega⟩))))
  by_cases h6 : k < 49
  · exact Or.inr (Or.inr (Or.inr (Or.inr (Or.inr (Or.inl ⟨k - 41, by omega, by omega⟩)))))
  · exact Or.inr (Or.inr (Or.inr (Or.inr (Or.inr (Or.inr ⟨k - 49, by omega, by omega⟩)))))
theorem kr_cpy (hd : b2 + 20 ≤ b ∨ b + 20 ≤ b2) (h : kr_R s b2 g m fi) : kr_R (kf_cpySt s b b2) b g m fi := by
  obtain ⟨⟨hA, hL, hI⟩, hn⟩ := h
  refine ⟨⟨fun k hk => ?_, ?_, hI⟩, ?_⟩
  · rw [← hA k hk]
    rcases kr_cases hk with h | ⟨h1, h2⟩ | ⟨c, hc, rfl⟩ | ⟨c, hc, rfl⟩ | ⟨c, hc, rfl⟩ | ⟨c, hc, rfl⟩ | ⟨c, hc, rfl⟩
    · rw [(kr_o0 h).1, (kr_o0 h).2, kr_cpy_2 hd h]
    · obtain ⟨q1, q2, q3⟩ := kr_q0 k h2 h1
      rw [q1]
      exact kr_cpy_b hd q2 q3
    · rw [(kr_o17 hc).1, (kr_o17 hc).2, kr_cpy_4 hd hc]
    · rw [(kr_o25 hc).1, (kr_o25 hc).2, kr_cpy_6 hd hc]
    · rw [(kr_o33 hc).1, (kr_o33 hc).2, kr_cpy_8 hd hc]
    · rw [(kr_o41 hc).1, (kr_o41 hc).2, kr_cpy_10 hd hc]
    · rw [(kr_o49 hc).1, (kr_o49 hc).2, kr_cpy_12 hd hc]
  · obtain ⟨o, lc, h1, h2, h3⟩ := hL
    refine ⟨o, lc, ?_, ?_, fun i hi => ?_⟩
    · rw [kr_cpy_13 hd (Or.inl rfl)]; exact h1
    · rw [kr_cpy_13 hd (Or.inr rfl)]; exact h2
    · have hp : (o + i) % 60 < 60 := Nat.mod_lt _ (by omega)
      rw [kr_cpy_15 hd hp, kr_cpy_17 hd hp, kr_cpy_19 hd hp]
      exact h3 i hi
  · rw [kr_cpy_b hd (by decide) (by decide)]
    exact hn
-- begun anew
theorem kg_fill_at (t : kn_S) (lo : Nat) (v : Int32) (j : Nat) : ∀ n, kg_fill t lo v n 129 j = if lo ≤ j ∧ j < lo + n then v else t 129 j
  | 0 => by rw [if_neg (by omega)]; rfl
  | n + 1 => by
    show kn_up (kg_fill t lo v n) 129 (lo + n) v 129 j = _
    by_cases q : j = lo + n
    · subst q
      rw [kn_up_row, if_pos (by omega)]
      exact if_pos rfl
    · rw [kn_upk q, kg_fill_at t lo v j n]
      by_cases q2 : lo ≤ j ∧ j < lo + n
      · rw [if_pos q2, if_pos (by omega)]
      · rw [if_neg q2, if_neg (by omega)]
theorem kg_begins_at (t : kn_S) (v : Int32) {j : Nat} (hj : j < 254) : kg_begins t v 129 j = if 25 ≤ j ∧ j < 33 then 51200 else if j = 16 then -1 else if 12 ≤ j then 0 else if j = 9 then 0 else if j = 8 then v else t 129 j := by
  unfold kg_begins
  rw [kg_fill_at]
  by_cases q : 25 ≤ j ∧ j < 25 + 8
  · rw [if_pos q, if_pos (by omega)]
  · rw [if_neg q, if_neg (by omega), kn_up_row]
    show (if j = 16 then -1 else _) = _
    by_cases q2 : j = 16
    · rw [if_pos q2, if_pos q2]
    · rw [if_neg q2, if_neg q2, kg_fill_at]
      by_cases q3 : 12 ≤ j
      · rw [if_pos (by omega), if_pos q3]
      · rw [if_neg (by omega), if_neg q3]
        simp [kn_up]
theorem kg_begins_ne (t : kn_S) (v : Int32) {a : Nat} (h : a ≠ 129) : kg_begins t v a = t a := by
  have e : ∀ (t : kn_S) (lo : Nat) (v : Int32) (n : Nat), kg_fill t lo v n a = t a := by
    intro t lo v n
    induction n with
    | zero => rfl
    | succ n ih =>
      show kn_up (kg_fill t lo v n) 129 (lo + n) v a = t a
      rw [kn_up_ne _ _ _ h, ih]
  unfold kg_begins
  rw [e, kn_up_ne _ _ _ h, e, kn_up_ne _ _ _ h, kn_up_ne _ _ _ h]
theorem kf_fill_ne {s : kn_S} {a b m : Nat} {x : Int32} (h : a ≠ b) : kf_fill s b m x a = s a := by
  funext k
  simp [kf_fill, h]
theorem kf_restart_ne (s : kn_S) {b a : Nat} (w : Int32) (h : a < b ∨ b + 20 ≤ a) : kf_restart s b w a = s a := by
  dsimp only [kf_restart]
  rw [kn_up_ne _ _ _ (by omega), kn_up_ne _ _ _ (by omega), kn_up_ne _ _ _ (by omega), kn_up_ne _ _ _ (by omega), kn_up_ne _ _ _ (by omega), kn_up_ne _ _ _ (by omega), kn_up_ne _ _ _ (by omega), kn_up_ne _ _ _ (by omega), kn_up_ne _ _ _ (by omega), kf_fill_ne (by omega), kf_fill_ne (by omega), kf_fill_ne (by omega), kf_fill_ne (by omega), kf_fill_ne (by omega), kn_up_ne _ _ _ (by omega)]
/-- a control begun anew with M cylinders: what the settings, the seed and the sensor were stays -/
theorem kr_restart {M : Nat} (hM : 2 ≤ M ∧ M ≤ 8) (h0 : ∀ c, c < 8 → s (b + 2) c = t 129 c ∧ kr_le (t 129 c) 1000) (h00 : kr_le (t 129 0) 128) (h10 : s b 15 = t 129 10 ∧ kr_le (t 129 10) 2147483647) (h11 : s b 16 = t 129 11 ∧ kn_01 (t 129 11)) : kr_R (kf_restart s b (nI M)) b (kg_begins t (nI M) 129) M 0 := by
  have n2 : b + 2 ≠ b := by omega
  have n4 : b + 4 ≠ b := by omega
  have n6 : b + 6 ≠ b := by omega
  have n8 : b + 8 ≠ b := by omega
  have n10 : b + 10 ≠ b := by omega
  have n12 : b + 12 ≠ b := by omega
  have n13 : b + 13 ≠ b := by omega
  have e2 : kf_restart s b (nI M) (b + 2) = s (b + 2) := by
    dsimp only [kf_restart]
    rw [kn_up_ne _ _ _ (by omega), kn_up_ne _ _ _ (by omega), kn_up_ne _ _ _ (by omega), kn_up_ne _ _ _ (by omega), kn_up_ne _ _ _ (by omega), kn_up_ne _ _ _ (by omega), kn_up_ne _ _ _ (by omega), kn_up_ne _ _ _ (by omega), kn_up_ne _ _ _ (by omega), kf_fill_ne (by omega), kf_fill_ne (by omega), kf_fill_ne (by omega), kf_fill_ne (by omega), kf_fill_ne (by omega), kn_up_ne _ _ _ (by omega)]
  have gb : ∀ j, j < 254 → kg_begins t (nI M) 129 j = if 25 ≤ j ∧ j < 33 then 51200 else if j = 16 then -1 else if 12 ≤ j then 0 else if j = 9 then 0 else if j = 8 then nI M else t 129 j := fun j hj => kg_begins_at t (nI M) hj
  refine ⟨⟨fun k hk => ?_, ⟨0, 0, ⟨?_, by decide⟩, ⟨?_, ?_, by decide⟩, fun i hi => absurd hi (by omega)⟩, ⟨?_, hM⟩, ?_, ⟨?_, ?_⟩, ⟨?_, ?_, fun k hk => ?_⟩, fun c hc => ?_, fun c hc => ?_, fun c hc => ?_, fun _ => 0, fun c hc => ?_, ?_⟩, ?_⟩
  · rw [gb k (by omega)]
    rcases kr_cases hk with h | ⟨h1, h2⟩ | ⟨c, hc, rfl⟩ | ⟨c, hc, rfl⟩ | ⟨c, hc, rfl⟩ | ⟨c, hc, rfl⟩ | ⟨c, hc, rfl⟩
    · rw [(kr_o0 h).1, (kr_o0 h).2, e2, (h0 k h).1, if_neg (by omega), if_neg (by omega), if_neg (by omega), if_neg (by omega), if_neg (by omega)]
    · have : k = 8 ∨ k = 9 ∨ k = 10 ∨ k = 11 ∨ k = 12 ∨ k = 13 ∨ k = 14 ∨ k = 15 ∨ k = 16 := by omega
      have l10 := h10.1
      have l11 := h11.1
      rcases this with rfl | rfl | rfl | rfl | rfl | rfl | rfl | rfl | rfl <;> simp [kr_o, kr_q, kf_restart, kf_fill, kn_up, l10, l11]
    · rw [(kr_o17 hc).1, (kr_o17 hc).2, if_neg (by omega), if_neg (by omega), if_pos (by omega)]
      simp [kf_restart, kf_fill, kn_up, hc]
    · rw [(kr_o25 hc).1, (kr_o25 hc).2, if_pos (by omega)]
      simp [kf_restart, kf_fill, kn_up, hc]
    · rw [(kr_o33 hc).1, (kr_o33 hc).2, if_neg (by omega), if_neg (by omega), if_pos (by omega)]
      simp [kf_restart, kf_fill, kn_up, hc]
    · rw [(kr_o41 hc).1, (kr_o41 hc).2, if_neg (by omega), if_neg (by omega), if_pos (by omega)]
      simp [kf_restart, kf_fill, kn_up, hc]
    · rw [(kr_o49 hc).1, (kr_o49 hc).2, if_neg (by omega), if_neg (by omega), if_pos (by omega)]
      simp [kf_restart, kf_fill, kn_up, hc]
  · simp [kf_restart, kn_up, nI_0]
  · simp [kf_restart, kn_up, nI_0]
  · rw [gb 73 (by omega)]; rfl
  · rw [gb 8 (by omega)]; rfl
  · rw [gb 9 (by omega)]; rfl
  · rw [gb 11 (by omega)]; exact h11.2
  · rw [gb 12 (by omega)]; exact Or.inl rfl
  · rw [gb 0 (by omega)]; exact h00
  · rw [gb 10 (by omega)]; exact h10.2
  · rw [gb k (by omega), if_neg (by omega), if_neg (by omega), if_neg (by omega), if_neg (by omega), if_neg (by omega)]; exact (h0 k hk).2
  · rw [gb _ (by omega), if_neg (by omega), if_neg (by omega), if_pos (by omega)]; exact ⟨0, by omega, rfl⟩
  · rw [gb _ (by omega), if_pos (by omega)]; exact ⟨51200, by omega, rfl⟩
  · rw [gb _ (by omega), if_neg (by omega), if_neg (by omega), if_pos (by omega)]; exact ⟨0, by omega, rfl⟩
  · rw [gb _ (by omega), if_neg (by omega), if_neg (by omega), if_pos (by omega)]; rfl
  · have : ∀ M, kr_sum (fun _ => 0) M = 0 := by
      intro M
      induction M with
      | zero => rfl
      | succ M ih => exact ih
    rw [this]
    exact Nat.le_refl _
  · rw [Nat.zero_mod]
    simp [kf_restart, kn_up, nI_0]
end KRC

