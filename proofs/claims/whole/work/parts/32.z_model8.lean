-- the model: its firings out of the text
theorem kg_n01 {k : Nat} (h : k ≤ 1) : kn_01 (nI k) := by
  rcases Nat.eq_zero_or_pos k with q | q
  · subst q; exact Or.inl rfl
  · obtain rfl : k = 1 := by omega
    exact Or.inr rfl
theorem kg_rds_1 (s : kn_S) (len sp : Nat) (be : Int32) : (kg_rds s len sp be).1 ≤ 1 := (kg_rb_le s len sp _ be).1
theorem kg_n0 {k : Nat} (h : k ≤ 1) : nI k = 0 ↔ k = 0 := nI_eq (b := 0) (by omega) (by decide)
theorem kg_rf_lo (s : kn_S) (len sp : Nat) {j : Nat} (h : j ≤ 6) : (kg_rf s len sp).2.2 128 j = s 128 j := by
  have hp : ∀ (t : kn_S) (q : Nat) (nu : Int32), kg_p t q nu 128 j = t 128 j := by
    intro t q nu
    rw [kg_p, kn_upk (by omega), kn_upk (by omega)]
  unfold kg_rf
  split
  · exact hp _ _ _
  dsimp only
  split
  · show kg_p _ _ _ 128 j = _
    rw [hp, kn_upk (by omega), hp]
  · show kn_up _ 128 11 _ 128 j = _
    rw [kn_upk (by omega), hp, kn_upk (by omega), hp, kn_upk (by omega), hp]
theorem kg_rf_7 (s : kn_S) (len sp : Nat) : (kg_rf s len sp).2.2 128 7 = nI (kg_rf s len sp).2.1 := by
  unfold kg_rf
  split
  · rfl
  dsimp only
  split
  · rfl
  · rfl
theorem kg_rf_ne (s : kn_S) (len sp : Nat) {b : Nat} (h : b ≠ 128) : (kg_rf s len sp).2.2 b = s b := by
  have hp : ∀ (t : kn_S) (q : Nat) (nu : Int32), kg_p t q nu b = t b := by
    intro t q nu
    rw [kg_p, kn_up_ne _ _ _ h, kn_up_ne _ _ _ h]
  unfold kg_rf
  split
  · exact hp _ _ _
  dsimp only
  split
  · show kg_p _ _ _ b = _
    rw [hp, kn_up_ne _ _ _ h, hp]
  · show kn_up _ 128 11 _ b = _
    rw [kn_up_ne _ _ _ h, hp, kn_up_ne _ _ _ h, hp, kn_up_ne _ _ _ h, hp]
theorem kg_rf_le (s : kn_S) (len sp : Nat) (h : sp ≤ len) : (kg_rf s len sp).1 ≤ 1 ∧ (kg_rf s len sp).2.1 ≤ len ∧ (¬ (kg_rf s len sp).1 = 0 → sp < (kg_rf s len sp).2.1) := by
  have h1 := kg_rds_le s len sp 32 h
  unfold kg_rf
  split
  · exact ⟨Nat.zero_le _, h1.2.1, fun q => absurd rfl q⟩
  rename_i q1
  dsimp only
  generalize kn_up (kg_p s (kg_rds s len sp 32).2.1 (kg_rds s len sp 32).2.2) 128 9 (kg_rds s len sp 32).2.2 = s1
  have h2 := kg_rds_le s1 len (kg_rds s len sp 32).2.1 32 h1.2.1
  have h3 := h1.2.2 q1
  split
  · exact ⟨Nat.zero_le _, h2.2.1, fun q => absurd rfl q⟩
  generalize kn_up (kg_p s1 (kg_rds s1 len (kg_rds s len sp 32).2.1 32).2.1 (kg_rds s1 len (kg_rds s len sp 32).2.1 32).2.2) 128 10 (kg_rds s1 len (kg_rds s len sp 32).2.1 32).2.2 = s2
  have h4 := kg_rds_le s2 len (kg_rds s1 len (kg_rds s len sp 32).2.1 32).2.1 59 h2.2.1
  exact ⟨kg_rds_1 _ _ _ _, h4.2.1, fun q => by have := h4.1; have := h2.1; show sp < (kg_rds s2 len (kg_rds s1 len (kg_rds s len sp 32).2.1 32).2.1 59).2.1; omega⟩
def kg_rpA (len : Nat) : Nat → Nat → kn_S → Nat × Nat × kn_S
  | 0, sp, s => (0, sp, s)
  | r + 1, sp, s => if len ≤ sp then (0, sp, s) else if (kg_rf s len sp).1 = 0 then (1, (kg_rf s len sp).2.1, (kg_rf s len sp).2.2) else kg_rpA len r (kg_rf s len sp).2.1 (kg_rf s len sp).2.2
def kg_fok (s : kn_S) : Int32 := if kf_isOp (s 128 9) (s 128 10) = 0 then 0 else if kf_within (s 128 11) 0 20000 = 0 then 0 else 1
def kg_rpB (len : Nat) : Nat → Nat → Nat → kn_S → Nat × Nat × kn_S
  | 0, _, n, s => (0, n, s)
  | r + 1, sp, n, s => if len ≤ sp then (0, n, s) else if (kg_rf s len sp).1 = 0 then (1, n, (kg_rf s len sp).2.2) else if kg_fok (kg_rf s len sp).2.2 = 0 then (1, n, (kg_rf s len sp).2.2) else kg_rpB len r (kg_rf s len sp).2.1 (n + 1) (kg_rf s len sp).2.2
def kg_cl (s : kn_S) : Nat := (kf_cell (s 128 9) (s 128 10)).toNatClampNeg
def kg_rpC (len m : Nat) : Nat → Nat → kn_S → kn_S
  | 0, _, s => s
  | r + 1, sp, s => if len ≤ sp then s else if (kg_rf s len sp).1 = 0 then (kg_rf s len sp).2.2 else kg_rpC len m r (kg_rf s len sp).2.1 (kg_tr (kg_rf s len sp).2.2 m (kg_cl (kg_rf s len sp).2.2) ((kg_rf s len sp).2.2 128 11))
/-- what the firings out of the text ask, one behind the other -/
def kg_okC (len m : Nat) : Nat → Nat → kn_S → Prop
  | 0, _, _ => True
  | r + 1, sp, s => len ≤ sp ∨ (kg_rf s len sp).1 = 0 ∨ ((kf_cell ((kg_rf s len sp).2.2 128 9) ((kg_rf s len sp).2.2 128 10) = nI (kg_cl (kg_rf s len sp).2.2) ∧ kg_cl (kg_rf s len sp).2.2 < 24 ∧ kg_tp (kg_rf s len sp).2.2 m (kg_cl (kg_rf s len sp).2.2) ((kg_rf s len sp).2.2 128 11)) ∧ kg_okC len m r (kg_rf s len sp).2.1 (kg_tr (kg_rf s len sp).2.2 m (kg_cl (kg_rf s len sp).2.2) ((kg_rf s len sp).2.2 128 11)))
theorem kg_saves_6 (s : kn_S) (sv : Nat) : kg_saves s sv 128 6 = s 128 6 := by
  unfold kg_saves
  split
  · rw [kn_upk (by decide), kg_cpy_ne _ (by decide), kn_upk (by decide), kg_cpy_ne _ (by decide)]
  · rw [kn_upk (by decide), kg_cpy_ne _ (by decide)]

set_option maxRecDepth 100000 in
set_option maxHeartbeats 4000000 in
theorem m_X7_readsFiring {X : kn_X} {σ : kn_S} {τ : kn_T} {z : kn_Z} {c n : Nat} {Q : kn_Q} {sp len : Nat} (hM : kn_isM z) (hsp : σ 128 7 = nI sp) (hlen : σ 128 6 = nI len) (hl120 : len ≤ 120) (hs : sp ≤ len) (hQ : Q (.inl (some (.int (nI (kg_rf σ len sp).1)))) (kg_rf σ len sp).2.2 τ z) : kn_Ev X MX7_readsFiring [.ref 128] σ τ z c n Q := by
  have hs1 := (kg_rds_le σ len sp 32 hs).2.1
  have hs2 := (kg_rds_le (kn_up (kg_p σ (kg_rds σ len sp 32).2.1 (kg_rds σ len sp 32).2.2) 128 9 (kg_rds σ len sp 32).2.2) len (kg_rds σ len sp 32).2.1 32 hs1).2.1
  refine kn_entry (by decide +kernel) rfl (Nat.le_of_ble_eq_true rfl) ?_
  show kn_Go X MX7_readsFiring 0 [(0, .ref 128)] [] _ _ _ _ _ _
  refine k_aload_n 0 dX7_readsFiring_0 rfl rfl ?_
  refine k_bipush (32) dX7_readsFiring_1 (by decide) ?_
  refine k_invV (As := [_]) dX7_readsFiring_3 mm_X7_reads wL_X7_155 ⟨by decide, by decide⟩ hM.1.1 hM.1.2 rfl rfl (Nat.le_of_ble_eq_true rfl) (Nat.zero_le _) (Nat.zero_le _) (m_X7_reads (sp := sp) (len := len) hM hsp hlen hl120 hs ⟨rfl, ?_⟩)
  refine k_ifne 11 dX7_readsFiring_6 (by decide) (fun h6 => ?_) (fun h6 => ?_)
  · have h6 : ¬ (kg_rds σ len sp 32).1 = 0 := fun q => h6 (by rw [q]; rfl)
    refine k_aload_n 0 dX7_readsFiring_11 rfl rfl ?_
    refine k_aload_n 0 dX7_readsFiring_12 rfl rfl ?_
    refine k_getfieldV dX7_readsFiring_13 hc_X7 hM.1.1 hM.1.2 8 (by decide) wF_X7_148 rfl ((rfl : _ = (kg_rds σ len sp 32).2.2)) ?_
    refine k_putfield dX7_readsFiring_16 hc_X7 hM.1.1 hM.1.2 9 (by decide) wF_X7_158 rfl rfl (t9 := .int) (by decide +kernel) rfl rfl ?_
    refine k_aload_n 0 dX7_readsFiring_19 rfl rfl ?_
    refine k_bipush (32) dX7_readsFiring_20 (by decide) ?_
    refine k_invV (As := [_]) dX7_readsFiring_22 mm_X7_reads wL_X7_155 ⟨by decide, by decide⟩ hM.1.1 hM.1.2 rfl rfl (Nat.le_of_ble_eq_true rfl) (Nat.zero_le _) (Nat.zero_le _) (m_X7_reads (sp := (kg_rds σ len sp 32).2.1) (len := len) hM rfl hlen hl120 hs1 ⟨rfl, ?_⟩)
    refine k_ifne 30 dX7_readsFiring_25 (by decide) (fun h25 => ?_) (fun h25 => ?_)
    · have h25 : ¬ (kg_rds (kn_up (kg_p σ (kg_rds σ len sp 32).2.1 (kg_rds σ len sp 32).2.2) 128 9 (kg_rds σ len sp 32).2.2) len (kg_rds σ len sp 32).2.1 32).1 = 0 := fun q => h25 (by rw [q]; rfl)
      refine k_aload_n 0 dX7_readsFiring_30 rfl rfl ?_
      refine k_aload_n 0 dX7_readsFiring_31 rfl rfl ?_
      refine k_getfieldV dX7_readsFiring_32 hc_X7 hM.1.1 hM.1.2 8 (by decide) wF_X7_148 rfl ((rfl : _ = (kg_rds (kn_up (kg_p σ (kg_rds σ len sp 32).2.1 (kg_rds σ len sp 32).2.2) 128 9 (kg_rds σ len sp 32).2.2) len (kg_rds σ len sp 32).2.1 32).2.2)) ?_
      refine k_putfield dX7_readsFiring_35 hc_X7 hM.1.1 hM.1.2 10 (by decide) wF_X7_161 rfl rfl (t9 := .int) (by decide +kernel) rfl rfl ?_
      refine k_aload_n 0 dX7_readsFiring_38 rfl rfl ?_
      refine k_bipush (59) dX7_readsFiring_39 (by decide) ?_
      refine k_invV (As := [_]) dX7_readsFiring_41 mm_X7_reads wL_X7_155 ⟨by decide, by decide⟩ hM.1.1 hM.1.2 rfl rfl (Nat.le_of_ble_eq_true rfl) (Nat.zero_le _) (Nat.zero_le _) (m_X7_reads (sp := (kg_rds (kn_up (kg_p σ (kg_rds σ len sp 32).2.1 (kg_rds σ len sp 32).2.2) 128 9 (kg_rds σ len sp 32).2.2) len (kg_rds σ len sp 32).2.1 32).2.1) (len := len) hM rfl hlen hl120 hs2 ⟨rfl, ?_⟩)
      refine k_istore_n 1 (lv' := [(1, _), (0, _)]) dX7_readsFiring_44 rfl (by decide) rfl ?_
      refine k_aload_n 0 dX7_readsFiring_45 rfl rfl ?_
      refine k_aload_n 0 dX7_readsFiring_46 rfl rfl ?_
      refine k_getfieldV dX7_readsFiring_47 hc_X7 hM.1.1 hM.1.2 8 (by decide) wF_X7_148 rfl ((rfl : _ = (kg_rds (kn_up (kg_p (kn_up (kg_p σ (kg_rds σ len sp 32).2.1 (kg_rds σ len sp 32).2.2) 128 9 (kg_rds σ len sp 32).2.2) (kg_rds (kn_up (kg_p σ (kg_rds σ len sp 32).2.1 (kg_rds σ len sp 32).2.2) 128 9 (kg_rds σ len sp 32).2.2) len (kg_rds σ len sp 32).2.1 32).2.1 (kg_rds (kn_up (kg_p σ (kg_rds σ len sp 32).2.1 (kg_rds σ len sp 32).2.2) 128 9 (kg_rds σ len sp 32).2.2) len (kg_rds σ len sp 32).2.1 32).2.2) 128 10 (kg_rds (kn_up (kg_p σ (kg_rds σ len sp 32).2.1 (kg_rds σ len sp 32).2.2) 128 9 (kg_rds σ len sp 32).2.2) len (kg_rds σ len sp 32).2.1 32).2.2) len (kg_rds (kn_up (kg_p σ (kg_rds σ len sp 32).2.1 (kg_rds σ len sp 32).2.2) 128 9 (kg_rds σ len sp 32).2.2) len (kg_rds σ len sp 32).2.1 32).2.1 59).2.2)) ?_
      refine k_putfield dX7_readsFiring_50 hc_X7 hM.1.1 hM.1.2 11 (by decide) wF_X7_164 rfl rfl (t9 := .int) (by decide +kernel) rfl rfl ?_
      refine k_iload_n 1 dX7_readsFiring_53 rfl rfl ?_
      refine k_iret dX7_readsFiring_54 rfl (kn_b01 (kg_n01 (kg_rds_1 _ _ _ _))) ?_
      rw [kg_rf, if_neg h6] at hQ
      dsimp only at hQ
      rw [if_neg h25] at hQ
      exact hQ
    · have h25 := (kg_n0 (kg_rds_1 _ _ _ _)).mp h25
      refine k_iconst (0) dX7_readsFiring_28 (by decide) ?_
      refine k_iret dX7_readsFiring_29 rfl (rfl) ?_
      rw [kg_rf, if_neg h6] at hQ
      dsimp only at hQ
      rw [if_pos h25] at hQ
      exact hQ
  · have h6 := (kg_n0 (kg_rds_1 _ _ _ _)).mp h6
    refine k_iconst (0) dX7_readsFiring_9 (by decide) ?_
    refine k_iret dX7_readsFiring_10 rfl (rfl) ?_
    rw [kg_rf, if_pos h6] at hQ
    exact hQ

set_option maxRecDepth 100000 in
set_option maxHeartbeats 4000000 in
theorem m_X7_replay {X : kn_X} {σ : kn_S} {τ : kn_T} {z : kn_Z} {c n : Nat} {Q : kn_Q} {sv m len : Nat} (hM : kn_isM z) (hsv : σ 128 3 = nI sv) (hsv4 : sv ≤ 4) (hlen : σ 128 6 = nI len) (hl120 : len ≤ 120) (hQ1 : (kg_rpA len 121 0 (kn_up (kn_up σ 128 4 0) 128 7 0)).1 = 1 → Q (.inl (some (.int (-10 - nI (kg_rpA len 121 0 (kn_up (kn_up σ 128 4 0) 128 7 0)).2.1)))) (kg_rpA len 121 0 (kn_up (kn_up σ 128 4 0) 128 7 0)).2.2 τ z) (hQ2 : (kg_rpA len 121 0 (kn_up (kn_up σ 128 4 0) 128 7 0)).1 = 0 → (kg_rpB len 121 0 0 (kn_up (kg_rpA len 121 0 (kn_up (kn_up σ 128 4 0) 128 7 0)).2.2 128 7 0)).1 = 1 → Q (.inl (some (.int (-1000 - nI (kg_rpB len 121 0 0 (kn_up (kg_rpA len 121 0 (kn_up (kn_up σ 128 4 0) 128 7 0)).2.2 128 7 0)).2.1)))) (kg_rpB len 121 0 0 (kn_up (kg_rpA len 121 0 (kn_up (kn_up σ 128 4 0) 128 7 0)).2.2 128 7 0)).2.2 τ z) (hC : (kg_rpA len 121 0 (kn_up (kn_up σ 128 4 0) 128 7 0)).1 = 0 → (kg_rpB len 121 0 0 (kn_up (kg_rpA len 121 0 (kn_up (kn_up σ 128 4 0) 128 7 0)).2.2 128 7 0)).1 = 0 → kg_okC len m 121 0 (kn_up (kg_saves (kg_rpB len 121 0 0 (kn_up (kg_rpA len 121 0 (kn_up (kn_up σ 128 4 0) 128 7 0)).2.2 128 7 0)).2.2 sv) 128 7 0)) (hQ3 : (kg_rpA len 121 0 (kn_up (kn_up σ 128 4 0) 128 7 0)).1 = 0 → (kg_rpB len 121 0 0 (kn_up (kg_rpA len 121 0 (kn_up (kn_up σ 128 4 0) 128 7 0)).2.2 128 7 0)).1 = 0 → Q (.inl (some (.int (nI (kg_rpB len 121 0 0 (kn_up (kg_rpA len 121 0 (kn_up (kn_up σ 128 4 0) 128 7 0)).2.2 128 7 0)).2.1)))) (kg_rpC len m 121 0 (kn_up (kg_saves (kg_rpB len 121 0 0 (kn_up (kg_rpA len 121 0 (kn_up (kn_up σ 128 4 0) 128 7 0)).2.2 128 7 0)).2.2 sv) 128 7 0)) τ z) : kn_Ev X MX7_replay [.ref 128] σ τ z c n Q := by
  refine kn_entry (by decide +kernel) rfl (Nat.le_of_ble_eq_true rfl) ?_
  show kn_Go X MX7_replay 0 [(0, .ref 128)] [] _ _ _ _ _ _
  have lp120 : ∀ r9 : Nat, ∀ (sp nn : Nat) (s9 : kn_S), s9 128 7 = nI sp → s9 128 6 = nI len → sp ≤ len → len ≤ sp + r9 → kg_okC len m r9 sp s9 → Q (.inl (some (.int (nI nn)))) (kg_rpC len m r9 sp s9) τ z → kn_Go X MX7_replay 120 [(1, .int (nI nn)), (0, .ref 128)] [] s9 τ z c n Q := by
    intro r9
    induction r9 with
    | zero =>
      intro sp nn s9 h7 h6 hsl hr hok hQ
      refine k_aload_n 0 dX7_replay_120 rfl rfl ?_
      refine k_getfieldV dX7_replay_121 hc_X7 hM.1.1 hM.1.2 7 (by decide) wF_X7_145 rfl (h7) ?_
      refine k_aload_n 0 dX7_replay_124 rfl rfl ?_
      refine k_getfieldV dX7_replay_125 hc_X7 hM.1.1 hM.1.2 6 (by decide) wF_X7_142 rfl (h6) ?_
      refine k_icmpge 158 dX7_replay_128 (by decide) (fun h128 => ?_) (fun h128 => ?_)
      · have h128 := (nI_leI (by omega) (by omega)).mp h128
        refine k_iload_n 1 dX7_replay_158 rfl rfl ?_
        refine k_iret dX7_replay_159 rfl (rfl) ?_
        rw [kg_rpC] at hQ
        first
          | exact hQ
          | (rw [if_pos h128] at hQ; exact hQ)
          | (rw [if_neg h128, if_pos h135] at hQ; exact hQ)
      · exact absurd (show nI len ≤ nI sp from nI_le (by omega) (by omega)) h128
    | succ r9 ih =>
      intro sp nn s9 h7 h6 hsl hr hok hQ
      refine k_aload_n 0 dX7_replay_120 rfl rfl ?_
      refine k_getfieldV dX7_replay_121 hc_X7 hM.1.1 hM.1.2 7 (by decide) wF_X7_145 rfl (h7) ?_
      refine k_aload_n 0 dX7_replay_124 rfl rfl ?_
      refine k_getfieldV dX7_replay_125 hc_X7 hM.1.1 hM.1.2 6 (by decide) wF_X7_142 rfl (h6) ?_
      refine k_icmpge 158 dX7_replay_128 (by decide) (fun h128 => ?_) (fun h128 => ?_)
      · have h128 := (nI_leI (by omega) (by omega)).mp h128
        refine k_iload_n 1 dX7_replay_158 rfl rfl ?_
        refine k_iret dX7_replay_159 rfl (rfl) ?_
        rw [kg_rpC] at hQ
        first
          | exact hQ
          | (rw [if_pos h128] at hQ; exact hQ)
          | (rw [if_neg h128, if_pos h135] at hQ; exact hQ)
      · have h128 : ¬ len ≤ sp := fun q => h128 (nI_le q (by omega))
        refine k_aload_n 0 dX7_replay_131 rfl rfl ?_
        refine k_invV (As := []) dX7_replay_132 mm_X7_readsFiring wL_X7_167 ⟨by decide, by decide⟩ hM.1.1 hM.1.2 rfl rfl (Nat.le_of_ble_eq_true rfl) (Nat.zero_le _) (Nat.zero_le _) (m_X7_readsFiring (sp := sp) (len := len) hM h7 h6 hl120 hsl ⟨rfl, ?_⟩)
        refine k_ifeq 158 dX7_replay_135 (by decide) (fun h135 => ?_) (fun h135 => ?_)
        · have h135 := (kg_n0 (kg_rf_le s9 len sp hsl).1).mp h135
          refine k_iload_n 1 dX7_replay_158 rfl rfl ?_
          refine k_iret dX7_replay_159 rfl (rfl) ?_
          rw [kg_rpC] at hQ
          first
            | exact hQ
            | (rw [if_pos h128] at hQ; exact hQ)
            | (rw [if_neg h128, if_pos h135] at hQ; exact hQ)
        · have h135 : ¬ (kg_rf s9 len sp).1 = 0 := fun q => h135 (by rw [q]; rfl)
          have hle := (kg_rf_le s9 len sp hsl).2
          have hlt := hle.2 h135
          have hok9 := (hok.resolve_left h128).resolve_left h135
          refine k_aload_n 0 dX7_replay_138 rfl rfl ?_
          refine k_aload_n 0 dX7_replay_139 rfl rfl ?_
          refine k_getfield dX7_replay_140 hc_X7 hM.1.1 hM.1.2 9 (by decide) wF_X7_158 rfl ?_
          refine k_aload_n 0 dX7_replay_143 rfl rfl ?_
          refine k_getfield dX7_replay_144 hc_X7 hM.1.1 hM.1.2 10 (by decide) wF_X7_161 rfl ?_
          refine k_aload_n 0 dX7_replay_147 rfl rfl ?_
          refine k_getfield dX7_replay_148 hc_X7 hM.1.1 hM.1.2 11 (by decide) wF_X7_164 rfl ?_
          refine k_invV (As := [_, _, _]) dX7_replay_151 mm_X7_treats wL_X7_108 ⟨by decide, by decide⟩ hM.1.1 hM.1.2 rfl rfl (Nat.le_of_ble_eq_true rfl) (Nat.zero_le _) (Nat.zero_le _) (m_X7_treats (m := m) (cl := kg_cl (kg_rf s9 len sp).2.2) hM hok9.1.2.2 hok9.1.1 hok9.1.2.1 ⟨rfl, ?_⟩)
          refine k_istore_n 2 (lv' := [(2, _), (1, _), (0, _)]) dX7_replay_154 rfl (by decide) rfl ?_
          refine k_goto 120 dX7_replay_155 (by decide) ?_
          refine k_re [1, 0] (lv' := [(1, _), (0, _)]) rfl ?_
          rw [kg_rpC, if_neg h128, if_neg h135] at hQ
          exact ih _ nn _ (by rw [kg_tr_ne _ _ _ _ (by decide)]; exact kg_rf_7 s9 len sp) (by rw [kg_tr_ne _ _ _ _ (by decide)]; exact (kg_rf_lo s9 len sp (by decide)).trans h6) hle.1 (by omega) hok9.2 hQ
  have lp43 : ∀ r9 : Nat, ∀ (sp nn : Nat) (s9 : kn_S), (kg_rpA len 121 0 (kn_up (kn_up σ 128 4 0) 128 7 0)).1 = 0 → s9 128 7 = nI sp → s9 128 6 = nI len → s9 128 3 = nI sv → sp ≤ len → len ≤ sp + r9 → kg_rpB len r9 sp nn s9 = (kg_rpB len 121 0 0 (kn_up (kg_rpA len 121 0 (kn_up (kn_up σ 128 4 0) 128 7 0)).2.2 128 7 0)) → kn_Go X MX7_replay 43 [(1, .int (nI nn)), (0, .ref 128)] [] s9 τ z c n Q := by
    intro r9
    induction r9 with
    | zero =>
      intro sp nn s9 hA0 h7 h6 h3 hsl hr hB
      refine k_aload_n 0 dX7_replay_43 rfl rfl ?_
      refine k_getfieldV dX7_replay_44 hc_X7 hM.1.1 hM.1.2 7 (by decide) wF_X7_145 rfl (h7) ?_
      refine k_aload_n 0 dX7_replay_47 rfl rfl ?_
      refine k_getfieldV dX7_replay_48 hc_X7 hM.1.1 hM.1.2 6 (by decide) wF_X7_142 rfl (h6) ?_
      refine k_icmpge 111 dX7_replay_51 (by decide) (fun h51 => ?_) (fun h51 => ?_)
      · have h51 := (nI_leI (by omega) (by omega)).mp h51
        refine k_aload_n 0 dX7_replay_111 rfl rfl ?_
        refine k_invV (As := []) dX7_replay_112 mm_X7_saves wL_X7_42 ⟨by decide, by decide⟩ hM.1.1 hM.1.2 rfl rfl (Nat.le_of_ble_eq_true rfl) (Nat.zero_le _) (Nat.zero_le _) (m_X7_saves (sv := sv) hM h3 hsv4 ⟨rfl, ?_⟩)
        refine k_aload_n 0 dX7_replay_115 rfl rfl ?_
        refine k_iconst (0) dX7_replay_116 (by decide) ?_
        refine k_putfield dX7_replay_117 hc_X7 hM.1.1 hM.1.2 7 (by decide) wF_X7_145 rfl rfl (t9 := .int) (by decide +kernel) rfl rfl ?_
        have e9 : (kg_rpB len 121 0 0 (kn_up (kg_rpA len 121 0 (kn_up (kn_up σ 128 4 0) 128 7 0)).2.2 128 7 0)) = (0, nn, s9) := by
          rw [← hB]
          first | rfl | rw [kg_rpB, if_pos h51]
        have hC9 := hC hA0 (by rw [e9])
        have hQ9 := hQ3 hA0 (by rw [e9])
        rw [e9] at hC9 hQ9
        exact lp120 121 0 nn _ rfl ((kg_saves_6 s9 sv).trans h6) (Nat.zero_le _) (by omega) hC9 hQ9
      · exact absurd (show nI len ≤ nI sp from nI_le (by omega) (by omega)) h51
    | succ r9 ih =>
      intro sp nn s9 hA0 h7 h6 h3 hsl hr hB
      refine k_aload_n 0 dX7_replay_43 rfl rfl ?_
      refine k_getfieldV dX7_replay_44 hc_X7 hM.1.1 hM.1.2 7 (by decide) wF_X7_145 rfl (h7) ?_
      refine k_aload_n 0 dX7_replay_47 rfl rfl ?_
      refine k_getfieldV dX7_replay_48 hc_X7 hM.1.1 hM.1.2 6 (by decide) wF_X7_142 rfl (h6) ?_
      refine k_icmpge 111 dX7_replay_51 (by decide) (fun h51 => ?_) (fun h51 => ?_)
      · have h51 := (nI_leI (by omega) (by omega)).mp h51
        refine k_aload_n 0 dX7_replay_111 rfl rfl ?_
        refine k_invV (As := []) dX7_replay_112 mm_X7_saves wL_X7_42 ⟨by decide, by decide⟩ hM.1.1 hM.1.2 rfl rfl (Nat.le_of_ble_eq_true rfl) (Nat.zero_le _) (Nat.zero_le _) (m_X7_saves (sv := sv) hM h3 hsv4 ⟨rfl, ?_⟩)
        refine k_aload_n 0 dX7_replay_115 rfl rfl ?_
        refine k_iconst (0) dX7_replay_116 (by decide) ?_
        refine k_putfield dX7_replay_117 hc_X7 hM.1.1 hM.1.2 7 (by decide) wF_X7_145 rfl rfl (t9 := .int) (by decide +kernel) rfl rfl ?_
        have e9 : (kg_rpB len 121 0 0 (kn_up (kg_rpA len 121 0 (kn_up (kn_up σ 128 4 0) 128 7 0)).2.2 128 7 0)) = (0, nn, s9) := by
          rw [← hB]
          first | rfl | rw [kg_rpB, if_pos h51]
        have hC9 := hC hA0 (by rw [e9])
        have hQ9 := hQ3 hA0 (by rw [e9])
        rw [e9] at hC9 hQ9
        exact lp120 121 0 nn _ rfl ((kg_saves_6 s9 sv).trans h6) (Nat.zero_le _) (by omega) hC9 hQ9
      · have h51 : ¬ len ≤ sp := fun q => h51 (nI_le q (by omega))
        refine k_aload_n 0 dX7_replay_54 rfl rfl ?_
        refine k_invV (As := []) dX7_replay_55 mm_X7_readsFiring wL_X7_167 ⟨by decide, by decide⟩ hM.1.1 hM.1.2 rfl rfl (Nat.le_of_ble_eq_true rfl) (Nat.zero_le _) (Nat.zero_le _) (m_X7_readsFiring (sp := sp) (len := len) hM h7 h6 hl120 hsl ⟨rfl, ?_⟩)
        refine k_ifeq 93 dX7_replay_58 (by decide) (fun h58 => ?_) (fun h58 => ?_)
        · have h58 := (kg_n0 (kg_rf_le s9 len sp hsl).1).mp h58
          refine k_iconst (0) dX7_replay_93 (by decide) ?_
          refine k_istore_n 2 (lv' := [(2, _), (1, _), (0, _)]) dX7_replay_94 rfl (by decide) rfl ?_
          refine k_iload_n 2 dX7_replay_95 rfl rfl ?_
          refine k_ifne 105 dX7_replay_96 (by decide) (fun h96 => ?_) (fun h96 => ?_)
          · exact absurd rfl h96
          · refine k_sipush (-1000) dX7_replay_99 (by decide) ?_
            refine k_iload_n 1 dX7_replay_102 rfl rfl ?_
            refine k_isub dX7_replay_103 ?_
            refine k_iret dX7_replay_104 rfl (rfl) ?_
            have e9 : (1, nn, (kg_rf s9 len sp).2.2) = (kg_rpB len 121 0 0 (kn_up (kg_rpA len 121 0 (kn_up (kn_up σ 128 4 0) 128 7 0)).2.2 128 7 0)) := by
              rw [← hB, kg_rpB, if_neg h51]
              first
                | rw [if_pos h58]
                | rw [if_neg h58, if_pos (show kg_fok (kg_rf s9 len sp).2.2 = 0 from by rw [kg_fok, if_pos h72])]
                | rw [if_neg h58, if_pos (show kg_fok (kg_rf s9 len sp).2.2 = 0 from by rw [kg_fok, if_neg h72, if_pos h86])]
            have h9 := hQ2 hA0 (by rw [← e9])
            rw [← e9] at h9
            exact h9
        · have h58 : ¬ (kg_rf s9 len sp).1 = 0 := fun q => h58 (by rw [q]; rfl)
          have hle := (kg_rf_le s9 len sp hsl).2
          have hlt := hle.2 h58
          refine k_aload_n 0 dX7_replay_61 rfl rfl ?_
          refine k_getfield dX7_replay_62 hc_X7 hM.1.1 hM.1.2 9 (by decide) wF_X7_158 rfl ?_
          refine k_aload_n 0 dX7_replay_65 rfl rfl ?_
          refine k_getfield dX7_replay_66 hc_X7 hM.1.1 hM.1.2 10 (by decide) wF_X7_161 rfl ?_
          refine k_invS (As := [_, _]) dX7_replay_69 mm_X7_isPoint wL_X7_111 ⟨by decide, by decide⟩ rfl rfl (Nat.le_of_ble_eq_true rfl) (Nat.zero_le _) (Nat.zero_le _) (m_X7_isPoint ⟨rfl, ?_⟩)
          refine k_ifeq 93 dX7_replay_72 (by decide) (fun h72 => ?_) (fun h72 => ?_)
          · refine k_iconst (0) dX7_replay_93 (by decide) ?_
            refine k_istore_n 2 (lv' := [(2, _), (1, _), (0, _)]) dX7_replay_94 rfl (by decide) rfl ?_
            refine k_iload_n 2 dX7_replay_95 rfl rfl ?_
            refine k_ifne 105 dX7_replay_96 (by decide) (fun h96 => ?_) (fun h96 => ?_)
            · exact absurd rfl h96
            · refine k_sipush (-1000) dX7_replay_99 (by decide) ?_
              refine k_iload_n 1 dX7_replay_102 rfl rfl ?_
              refine k_isub dX7_replay_103 ?_
              refine k_iret dX7_replay_104 rfl (rfl) ?_
              have e9 : (1, nn, (kg_rf s9 len sp).2.2) = (kg_rpB len 121 0 0 (kn_up (kg_rpA len 121 0 (kn_up (kn_up σ 128 4 0) 128 7 0)).2.2 128 7 0)) := by
                rw [← hB, kg_rpB, if_neg h51]
                first
                  | rw [if_pos h58]
                  | rw [if_neg h58, if_pos (show kg_fok (kg_rf s9 len sp).2.2 = 0 from by rw [kg_fok, if_pos h72])]
                  | rw [if_neg h58, if_pos (show kg_fok (kg_rf s9 len sp).2.2 = 0 from by rw [kg_fok, if_neg h72, if_pos h86])]
              have h9 := hQ2 hA0 (by rw [← e9])
              rw [← e9] at h9
              exact h9
          · refine k_aload_n 0 dX7_replay_75 rfl rfl ?_
            refine k_getfield dX7_replay_76 hc_X7 hM.1.1 hM.1.2 11 (by decide) wF_X7_164 rfl ?_
            refine k_iconst (0) dX7_replay_79 (by decide) ?_
            refine k_sipush (20000) dX7_replay_80 (by decide) ?_
            refine k_invS (As := [_, _, _]) dX7_replay_83 mm_X7_within wL_X7_38 ⟨by decide, by decide⟩ rfl rfl (Nat.le_of_ble_eq_true rfl) (Nat.zero_le _) (Nat.zero_le _) (m_X7_within ⟨rfl, ?_⟩)
            refine k_ifeq 93 dX7_replay_86 (by decide) (fun h86 => ?_) (fun h86 => ?_)
            · refine k_iconst (0) dX7_replay_93 (by decide) ?_
              refine k_istore_n 2 (lv' := [(2, _), (1, _), (0, _)]) dX7_replay_94 rfl (by decide) rfl ?_
              refine k_iload_n 2 dX7_replay_95 rfl rfl ?_
              refine k_ifne 105 dX7_replay_96 (by decide) (fun h96 => ?_) (fun h96 => ?_)
              · exact absurd rfl h96
              · refine k_sipush (-1000) dX7_replay_99 (by decide) ?_
                refine k_iload_n 1 dX7_replay_102 rfl rfl ?_
                refine k_isub dX7_replay_103 ?_
                refine k_iret dX7_replay_104 rfl (rfl) ?_
                have e9 : (1, nn, (kg_rf s9 len sp).2.2) = (kg_rpB len 121 0 0 (kn_up (kg_rpA len 121 0 (kn_up (kn_up σ 128 4 0) 128 7 0)).2.2 128 7 0)) := by
                  rw [← hB, kg_rpB, if_neg h51]
                  first
                    | rw [if_pos h58]
                    | rw [if_neg h58, if_pos (show kg_fok (kg_rf s9 len sp).2.2 = 0 from by rw [kg_fok, if_pos h72])]
                    | rw [if_neg h58, if_pos (show kg_fok (kg_rf s9 len sp).2.2 = 0 from by rw [kg_fok, if_neg h72, if_pos h86])]
                have h9 := hQ2 hA0 (by rw [← e9])
                rw [← e9] at h9
                exact h9
            · refine k_iconst (1) dX7_replay_89 (by decide) ?_
              refine k_goto 94 dX7_replay_90 (by decide) ?_
              refine k_istore_n 2 (lv' := [(2, _), (1, _), (0, _)]) dX7_replay_94 rfl (by decide) rfl ?_
              refine k_iload_n 2 dX7_replay_95 rfl rfl ?_
              refine k_ifne 105 dX7_replay_96 (by decide) (fun h96 => ?_) (fun h96 => ?_)
              · refine k_iinc (nI (nn + 1)) (lv' := [(1, _), (2, _), (0, _)]) dX7_replay_105 rfl (kn_inc nn) (by decide) rfl ?_
                refine k_goto 43 dX7_replay_108 (by decide) ?_
                refine k_re [1, 0] (lv' := [(1, _), (0, _)]) rfl ?_
                rw [kg_rpB, if_neg h51, if_neg h58, if_neg (show ¬ kg_fok (kg_rf s9 len sp).2.2 = 0 from by rw [kg_fok, if_neg h72, if_neg h86]; decide)] at hB
                exact ih _ (nn + 1) _ hA0 (kg_rf_7 s9 len sp) ((kg_rf_lo s9 len sp (by decide)).trans h6) ((kg_rf_lo s9 len sp (by decide)).trans h3) hle.1 (by omega) hB
              · exact absurd h96 (by decide)
  have lp10 : ∀ r9 : Nat, ∀ (sp : Nat) (s9 : kn_S), s9 128 7 = nI sp → s9 128 6 = nI len → s9 128 3 = nI sv → sp ≤ len → len ≤ sp + r9 → kg_rpA len r9 sp s9 = (kg_rpA len 121 0 (kn_up (kn_up σ 128 4 0) 128 7 0)) → kn_Go X MX7_replay 10 [(0, .ref 128)] [] s9 τ z c n Q := by
    intro r9
    induction r9 with
    | zero =>
      intro sp s9 h7 h6 h3 hsl hr hA
      refine k_aload_n 0 dX7_replay_10 rfl rfl ?_
      refine k_getfieldV dX7_replay_11 hc_X7 hM.1.1 hM.1.2 7 (by decide) wF_X7_145 rfl (h7) ?_
      refine k_aload_n 0 dX7_replay_14 rfl rfl ?_
      refine k_getfieldV dX7_replay_15 hc_X7 hM.1.1 hM.1.2 6 (by decide) wF_X7_142 rfl (h6) ?_
      refine k_icmpge 36 dX7_replay_18 (by decide) (fun h18 => ?_) (fun h18 => ?_)
      · have h18 := (nI_leI (by omega) (by omega)).mp h18
        refine k_iconst (0) dX7_replay_36 (by decide) ?_
        refine k_istore_n 1 (lv' := [(1, _), (0, _)]) dX7_replay_37 rfl (by decide) rfl ?_
        refine k_aload_n 0 dX7_replay_38 rfl rfl ?_
        refine k_iconst (0) dX7_replay_39 (by decide) ?_
        refine k_putfield dX7_replay_40 hc_X7 hM.1.1 hM.1.2 7 (by decide) wF_X7_145 rfl rfl (t9 := .int) (by decide +kernel) rfl rfl ?_
        have e9 : (kg_rpA len 121 0 (kn_up (kn_up σ 128 4 0) 128 7 0)) = (0, sp, s9) := by
          rw [← hA]
          first | rfl | rw [kg_rpA, if_pos h18]
        refine lp43 121 0 0 (kn_up s9 128 7 0) (by rw [e9]) rfl h6 h3 (Nat.zero_le _) (by omega) (by rw [e9])
      · exact absurd (show nI len ≤ nI sp from nI_le (by omega) (by omega)) h18
    | succ r9 ih =>
      intro sp s9 h7 h6 h3 hsl hr hA
      refine k_aload_n 0 dX7_replay_10 rfl rfl ?_
      refine k_getfieldV dX7_replay_11 hc_X7 hM.1.1 hM.1.2 7 (by decide) wF_X7_145 rfl (h7) ?_
      refine k_aload_n 0 dX7_replay_14 rfl rfl ?_
      refine k_getfieldV dX7_replay_15 hc_X7 hM.1.1 hM.1.2 6 (by decide) wF_X7_142 rfl (h6) ?_
      refine k_icmpge 36 dX7_replay_18 (by decide) (fun h18 => ?_) (fun h18 => ?_)
      · have h18 := (nI_leI (by omega) (by omega)).mp h18
        refine k_iconst (0) dX7_replay_36 (by decide) ?_
        refine k_istore_n 1 (lv' := [(1, _), (0, _)]) dX7_replay_37 rfl (by decide) rfl ?_
        refine k_aload_n 0 dX7_replay_38 rfl rfl ?_
        refine k_iconst (0) dX7_replay_39 (by decide) ?_
        refine k_putfield dX7_replay_40 hc_X7 hM.1.1 hM.1.2 7 (by decide) wF_X7_145 rfl rfl (t9 := .int) (by decide +kernel) rfl rfl ?_
        have e9 : (kg_rpA len 121 0 (kn_up (kn_up σ 128 4 0) 128 7 0)) = (0, sp, s9) := by
          rw [← hA]
          first | rfl | rw [kg_rpA, if_pos h18]
        refine lp43 121 0 0 (kn_up s9 128 7 0) (by rw [e9]) rfl h6 h3 (Nat.zero_le _) (by omega) (by rw [e9])
      · have h18 : ¬ len ≤ sp := fun q => h18 (nI_le q (by omega))
        refine k_aload_n 0 dX7_replay_21 rfl rfl ?_
        refine k_invV (As := []) dX7_replay_22 mm_X7_readsFiring wL_X7_167 ⟨by decide, by decide⟩ hM.1.1 hM.1.2 rfl rfl (Nat.le_of_ble_eq_true rfl) (Nat.zero_le _) (Nat.zero_le _) (m_X7_readsFiring (sp := sp) (len := len) hM h7 h6 hl120 hsl ⟨rfl, ?_⟩)
        refine k_ifne 10 dX7_replay_25 (by decide) (fun h25 => ?_) (fun h25 => ?_)
        · have h25 : ¬ (kg_rf s9 len sp).1 = 0 := fun q => h25 (by rw [q]; rfl)
          have hle := (kg_rf_le s9 len sp hsl).2
          have hlt := hle.2 h25
          rw [kg_rpA, if_neg h18, if_neg h25] at hA
          exact ih _ _ (kg_rf_7 s9 len sp) ((kg_rf_lo s9 len sp (by decide)).trans h6) ((kg_rf_lo s9 len sp (by decide)).trans h3) hle.1 (by omega) hA
        · have h25 := (kg_n0 (kg_rf_le s9 len sp hsl).1).mp h25
          refine k_bipush (-10) dX7_replay_28 (by decide) ?_
          refine k_aload_n 0 dX7_replay_30 rfl rfl ?_
          refine k_getfieldV dX7_replay_31 hc_X7 hM.1.1 hM.1.2 7 (by decide) wF_X7_145 rfl (kg_rf_7 s9 len sp) ?_
          refine k_isub dX7_replay_34 ?_
          refine k_iret dX7_replay_35 rfl (rfl) ?_
          rw [kg_rpA, if_neg h18, if_pos h25] at hA
          have h9 := hQ1 (by rw [← hA])
          rw [← hA] at h9
          exact h9
  refine k_aload_n 0 dX7_replay_0 rfl rfl ?_
  refine k_iconst (0) dX7_replay_1 (by decide) ?_
  refine k_putfield dX7_replay_2 hc_X7 hM.1.1 hM.1.2 4 (by decide) wF_X7_27 rfl rfl (t9 := .int) (by decide +kernel) rfl rfl ?_
  refine k_aload_n 0 dX7_replay_5 rfl rfl ?_
  refine k_iconst (0) dX7_replay_6 (by decide) ?_
  refine k_putfield dX7_replay_7 hc_X7 hM.1.1 hM.1.2 7 (by decide) wF_X7_145 rfl rfl (t9 := .int) (by decide +kernel) rfl rfl ?_
  exact lp10 121 0 _ rfl hlen hsv (Nat.zero_le _) (by omega) rfl
