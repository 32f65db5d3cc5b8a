-- the model: the lowest octane
theorem kg_sh_ne (s : kn_S) {b' : Nat} (h : b' ≠ 129) : ∀ k, kg_sh s k b' = s b'
  | 0 => rfl
  | k + 1 => by
    show kn_up (kg_sh s k) 129 (74 + k) _ b' = s b'
    rw [kn_up_ne _ _ _ h, kg_sh_ne s h k]
theorem kg_logs_ne (s : kn_S) (k n : Int32) {b' : Nat} (h : b' ≠ 129) : kg_logs s k n b' = s b' := by
  unfold kg_logs
  split
  · dsimp only [kg_lw, kg_log0]
    rw [kn_up_ne _ _ _ h, kn_up_ne _ _ _ h, kn_up_ne _ _ _ h, kn_up_ne _ _ _ h, kn_up_ne _ _ _ h, kg_sh_ne s h]
  · dsimp only [kg_lw]
    rw [kn_up_ne _ _ _ h, kn_up_ne _ _ _ h, kn_up_ne _ _ _ h, kn_up_ne _ _ _ h]
theorem kg_s3_ne (s : kn_S) {b' : Nat} (h : b' ≠ 129) : kg_s3 s b' = s b' := by
  unfold kg_s3
  split
  · split
    · rfl
    · rw [kg_logs_ne _ _ _ h, kn_up_ne _ _ _ h]
  · rfl
theorem kg_sen_ne (s : kn_S) (e : Int32) {b' : Nat} (h : b' ≠ 129) : kg_sen s e b' = s b' := by
  have h1 : kg_s1 s e b' = s b' := by
    unfold kg_s1
    split
    · rw [kn_up_ne _ _ _ h, kn_up_ne _ _ _ h]
    · rw [kn_up_ne _ _ _ h, kn_up_ne _ _ _ h]
  unfold kg_sen kg_s2
  split
  · split
    · rw [kg_s3_ne _ h, h1]
    · rw [kg_logs_ne _ _ _ h, kn_up_ne _ _ _ h, h1]
  · rw [kg_s3_ne _ h, h1]
theorem kg_kn_ne (s : kn_S) (cc cl : Nat) (e t : Int32) {b' : Nat} (h : b' ≠ 129) : kg_kn s cc cl e t b' = s b' := by
  dsimp only [kg_kn]
  rw [kg_logs_ne _ _ _ h, kn_up_ne _ _ _ h, kn_up_ne _ _ _ h, kn_up_ne _ _ _ h]
theorem kg_re_ne (s : kn_S) (cc : Nat) (e : Int32) {b' : Nat} (h : b' ≠ 129) : kg_re s cc e b' = s b' := by
  dsimp only [kg_re]
  split
  · rw [kn_up_ne _ _ _ h, kn_up_ne _ _ _ h]
  · rw [kn_up_ne _ _ _ h, kn_up_ne _ _ _ h, kn_up_ne _ _ _ h, kn_up_ne _ _ _ h]
theorem kg_ev_ne (s : kn_S) (l : Int32) {b' : Nat} (h : b' ≠ 129) : ∀ j, kg_ev s l j b' = s b'
  | 0 => rfl
  | j + 1 => by
    show kn_up (kg_ev s l j) 129 (17 + j) _ b' = s b'
    rw [kn_up_ne _ _ _ h, kg_ev_ne s l h j]
theorem kg_dec_ne (s : kn_S) {b' : Nat} (h : b' ≠ 129) : ∀ j, kg_dec s j b' = s b'
  | 0 => rfl
  | j + 1 => by
    show kn_up (kg_dec s j) 129 (17 + j) _ b' = s b'
    rw [kn_up_ne _ _ _ h, kg_dec_ne s h j]
theorem kg_le_ne (s : kn_S) (m cl : Nat) {b' : Nat} (h : b' ≠ 129) : kg_le s m cl b' = s b' := by
  have hL : ∀ mean, kg_leL s cl mean b' = s b' := by
    intro mean
    unfold kg_leL
    split
    · rfl
    split
    · rfl
    · rw [kg_logs_ne _ _ _ h, kn_up_ne _ _ _ h]
  unfold kg_le
  split
  · exact hL _
  split
  · exact hL _
  · unfold kg_leU
    rw [kg_logs_ne _ _ _ h, kg_dec_ne _ h, kn_up_ne _ _ _ h]
theorem kg_tr_ne (s : kn_S) (m cl : Nat) (e : Int32) {b' : Nat} (h : b' ≠ 129) : kg_tr s m cl e b' = s b' := by
  have h3 : kg_t3 s cl e b' = s b' := by
    unfold kg_t3
    rw [kn_up_ne _ _ _ h, kn_up_ne _ _ _ h, kg_sen_ne _ _ h]
  have h5 : ∀ t : kn_S, kg_t5 t m cl b' = t b' := by
    intro t
    unfold kg_t5
    split
    · rfl
    split
    · exact kg_le_ne t m cl h
    · rfl
  have h4 : ∀ (t : kn_S) (cc : Nat), kg_t4 t cc cl e b' = t b' := by
    intro t cc
    unfold kg_t4
    split
    · exact kg_re_ne t cc e h
    · exact kg_kn_ne t cc cl e _ h
  unfold kg_tr kg_tr2
  split
  · rw [kg_t6, kn_up_ne _ _ _ h, h5, kg_evens, kg_ev_ne _ _ h, h4, h3]
  · rw [kg_t6, kn_up_ne _ _ _ h, h3]
theorem kg_fs_ne (s : kn_S) (m cl : Nat) (x y w : Int32) {b' : Nat} (h : b' ≠ 129) : kg_fs s m cl x y w b' = s b' := by
  unfold kg_fs
  rw [kg_tr_ne _ _ _ _ h, kg_rn, kn_up_ne _ _ _ h]
theorem kg_it_ne (s : kn_S) (m cl : Nat) (x y w : Int32) {b' : Nat} (h : b' ≠ 129) : ∀ j, kg_it s m cl x y w j b' = s b'
  | 0 => rfl
  | j + 1 => by
    show kg_fs (kg_it s m cl x y w j) m cl x y w b' = s b'
    rw [kg_fs_ne _ _ _ _ _ _ h, kg_it_ne s m cl x y w h j]
theorem kg_cpy_at (s : kn_S) {b d b2 d2 : Nat} (h : b2 ≠ b) {k : Nat} : ∀ n, k < n → kg_cpy s b d b2 d2 n b (d + k) = s b2 (d2 + k)
  | 0, hk => absurd hk (by omega)
  | n + 1, hk => by
    show kn_up (kg_cpy s b d b2 d2 n) b (d + n) (kg_cpy s b d b2 d2 n b2 (d2 + n)) b (d + k) = _
    by_cases e : k = n
    · subst e
      unfold kn_up
      rw [if_pos ⟨rfl, rfl⟩, kg_cpy_ne s h]
    · rw [kn_upk (by omega)]
      exact kg_cpy_at s h n (by omega)
/-- firings until one knocks: how many were quiet, and the row behind them -/
def kg_lL (s : kn_S) (m cl : Nat) (x y w : Int32) : Nat → Nat → Nat × kn_S
  | 0, j => (j, kg_it s m cl x y w j)
  | r + 1, j => if kg_fa (kg_it s m cl x y w j) m cl x y w = 1 then (j, kg_it s m cl x y w (j + 1)) else kg_lL s m cl x y w r (j + 1)
def kg_lo (m cl : Nat) (x y : Int32) (cnt : Nat) : Nat → Nat → kn_S → Int32 × kn_S
  | 0, _, s => (-1, s)
  | r + 1, oc, s => if (kg_lL s m cl x y (nI oc) cnt 0).1 = cnt then (nI oc, kg_bk (kg_lL s m cl x y (nI oc) cnt 0).2) else kg_lo m cl x y cnt r (oc + 1) (kg_bk (kg_lL s m cl x y (nI oc) cnt 0).2)
theorem kg_lL_ne (s : kn_S) (m cl : Nat) (x y w : Int32) {b' : Nat} (h : b' ≠ 129) : ∀ r j, (kg_lL s m cl x y w r j).2 b' = s b'
  | 0, j => kg_it_ne s m cl x y w h j
  | r + 1, j => by
    unfold kg_lL
    split
    · exact kg_it_ne s m cl x y w h (j + 1)
    · exact kg_lL_ne s m cl x y w h r (j + 1)
theorem kg_lL_le (s : kn_S) (m cl : Nat) (x y w : Int32) : ∀ r j, (kg_lL s m cl x y w r j).1 ≤ j + r
  | 0, j => Nat.le_refl _
  | r + 1, j => by
    unfold kg_lL
    split
    · show j ≤ _; omega
    · have := kg_lL_le s m cl x y w r (j + 1); omega
/-- the row is as it was laid aside -/
def kg_sm (s s0 : kn_S) : Prop := (∀ k, k < 254 → s 129 k = s0 129 k) ∧ (∀ k, k < 254 → s 131 k = s0 129 k)
theorem kg_as_sm (s : kn_S) : kg_sm (kg_as s) s := by
  refine ⟨fun k hk => ?_, fun k hk => ?_⟩
  · show kg_cpy (kn_up s 128 4 0) 131 0 129 0 254 129 k = _
    rw [kg_cpy_ne _ (by decide), kn_up_ne _ _ _ (by decide)]
  · have h := kg_cpy_at (kn_up s 128 4 0) (b := 131) (d := 0) (b2 := 129) (d2 := 0) (k := k) (by decide) 254 hk
    rw [Nat.zero_add] at h
    show kg_cpy (kn_up s 128 4 0) 131 0 129 0 254 131 k = _
    rw [h, kn_up_ne _ _ _ (by decide)]
theorem kg_bk_sm {s t s0 : kn_S} (h : kg_sm s s0) (ht : t 131 = s 131) : kg_sm (kg_bk t) s0 := by
  have e : ∀ k, k < 254 → kg_bk t 129 k = s0 129 k := by
    intro k hk
    have h9 := kg_cpy_at t (b := 129) (d := 0) (b2 := 131) (d2 := 0) (k := k) (by decide) 254 hk
    rw [Nat.zero_add] at h9
    show kg_cpy t 129 0 131 0 254 129 k = _
    rw [h9, ht]
    exact h.2 k hk
  refine ⟨e, fun k hk => ?_⟩
  show kg_cpy t 129 0 131 0 254 131 k = _
  rw [kg_cpy_ne _ (by decide), ht]
  exact h.2 k hk

theorem kg_w100 {v : Int32} (h : ¬ kf_within v 1 100 = 0) : ∃ j, j ≤ 100 ∧ v = nI j := by
  unfold kf_within at h
  by_cases h1 : v < 1
  · rw [if_pos h1] at h; exact absurd rfl h
  · rw [if_neg h1] at h
    by_cases h2 : 100 < v
    · rw [if_pos h2] at h; exact absurd rfl h
    · have h3 : ¬ v < 0 := by intro h9; exact h1 (by rw [Int32.lt_iff_toInt_lt] at h9 ⊢; have : (1 : Int32).toInt = 1 := rfl; have : (0 : Int32).toInt = 0 := rfl; omega)
      obtain ⟨j, hj, rfl⟩ := nI_of h3
      refine ⟨j, ?_, rfl⟩
      rcases Nat.lt_or_ge 100 j with q | q
      · exact absurd (show nI 100 < nI j from nI_lt q hj) h2
      · exact q
