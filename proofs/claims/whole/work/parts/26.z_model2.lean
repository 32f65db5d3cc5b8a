-- the model: a row told and changed
theorem kn_upk {s : kn_S} {b k j : Nat} {v : Int32} (h : j ≠ k) : kn_up s b k v b j = s b j := by
  unfold kn_up
  rw [if_neg (fun q => h q.2)]
theorem kn_sw6 (x : Int32) : x = 0 ∨ x = 1 ∨ x = 2 ∨ x = 3 ∨ x = 4 ∨ x = 5 ∨ x = 6 ∨ ((¬ x = 0 ∧ ¬ x = 1 ∧ ¬ x = 2 ∧ ¬ x = 3 ∧ ¬ x = 4 ∧ ¬ x = 5 ∧ ¬ x = 6) ∧ (x.toInt < 0 ∨ 6 < x.toInt)) := by
  by_cases h0 : x = 0; · exact Or.inl h0
  by_cases h1 : x = 1; · exact Or.inr (Or.inl h1)
  by_cases h2 : x = 2; · exact Or.inr (Or.inr (Or.inl h2))
  by_cases h3 : x = 3; · exact Or.inr (Or.inr (Or.inr (Or.inl h3)))
  by_cases h4 : x = 4; · exact Or.inr (Or.inr (Or.inr (Or.inr (Or.inl h4))))
  by_cases h5 : x = 5; · exact Or.inr (Or.inr (Or.inr (Or.inr (Or.inr (Or.inl h5)))))
  by_cases h6 : x = 6; · exact Or.inr (Or.inr (Or.inr (Or.inr (Or.inr (Or.inr (Or.inl h6))))))
  refine Or.inr (Or.inr (Or.inr (Or.inr (Or.inr (Or.inr (Or.inr ⟨⟨h0, h1, h2, h3, h4, h5, h6⟩, ?_⟩))))))
  have e0 : ¬ x.toInt = 0 := fun h => h0 (Int32.toInt_inj.mp h)
  have e1 : ¬ x.toInt = 1 := fun h => h1 (Int32.toInt_inj.mp h)
  have e2 : ¬ x.toInt = 2 := fun h => h2 (Int32.toInt_inj.mp h)
  have e3 : ¬ x.toInt = 3 := fun h => h3 (Int32.toInt_inj.mp h)
  have e4 : ¬ x.toInt = 4 := fun h => h4 (Int32.toInt_inj.mp h)
  have e5 : ¬ x.toInt = 5 := fun h => h5 (Int32.toInt_inj.mp h)
  have e6 : ¬ x.toInt = 6 := fun h => h6 (Int32.toInt_inj.mp h)
  omega
def kg_isSet (w v : Int32) : Int32 := if w = 0 then kf_within v 16 128 else if w = 1 then kf_within v 1 50 else if w = 2 then kf_within v 1 200 else if w = 3 then kf_within v 20 200 else if w = 4 then kf_within v 0 200 else if w = 5 then kf_within v 1 500 else if w = 6 then kf_within v 0 1000 else if w = 7 then (if kf_within v 0 100 = 0 then 0 else 1) else 0
theorem kg_isSet_k {w v : Int32} (h : ¬ kg_isSet w v = 0) : ∃ k, w = nI k ∧ k < 8 := by
  rcases kn_sw6 w with q | q | q | q | q | q | q | q
  · exact ⟨0, q, by decide⟩
  · exact ⟨1, q, by decide⟩
  · exact ⟨2, q, by decide⟩
  · exact ⟨3, q, by decide⟩
  · exact ⟨4, q, by decide⟩
  · exact ⟨5, q, by decide⟩
  · exact ⟨6, q, by decide⟩
  · by_cases h7 : w = 7
    · exact ⟨7, h7, by decide⟩
    · refine absurd ?_ h
      rw [kg_isSet, if_neg q.1.1, if_neg q.1.2.1, if_neg q.1.2.2.1, if_neg q.1.2.2.2.1, if_neg q.1.2.2.2.2.1, if_neg q.1.2.2.2.2.2.1, if_neg q.1.2.2.2.2.2.2, if_neg h7]
theorem kf_isCell_nI {x y : Int32} (h : ¬ kf_isCell x y = 0) : ∃ r k, r ≤ 5 ∧ k ≤ 3 ∧ x = nI r ∧ y = nI k := by
  unfold kf_isCell kf_and at h
  by_cases h1 : kf_within x 0 5 = 0
  · rw [if_pos h1] at h; exact absurd rfl h
  by_cases h2 : kf_within y 0 3 = 0
  · rw [if_neg h1, if_pos h2] at h; exact absurd rfl h
  obtain ⟨r, hr, e1⟩ := kf_within_nI (n := 5) rfl (by decide) h1
  obtain ⟨k, hk, e2⟩ := kf_within_nI (n := 3) rfl (by decide) h2
  exact ⟨r, k, hr, hk, e1, e2⟩
def kg_ret (s : kn_S) (cc cl : Nat) : Int32 := kf_min ((if s 129 12 = 1 then s 129 7 else s 129 (17 + cc)) + s 129 (49 + cl)) (s 129 3)
def kg_thr (s : kn_S) (cc : Nat) : Int32 := s 129 (25 + cc) * s 129 0 / 4096 + 50
/-- the log has between no and sixty notes -/
def kg_ok (s : kn_S) : Prop := ∃ lc, lc ≤ 60 ∧ s 129 73 = nI lc
def kg_sh (s : kn_S) : Nat → kn_S
  | 0 => s
  | j + 1 => kn_up (kg_sh s j) 129 (74 + j) (kg_sh s j 129 (74 + j + 3))
theorem kg_sh_lo (s : kn_S) {j : Nat} (h : j < 74) : ∀ k, kg_sh s k 129 j = s 129 j
  | 0 => rfl
  | k + 1 => by
    show kn_up (kg_sh s k) 129 (74 + k) _ 129 j = s 129 j
    rw [kn_upk (by omega), kg_sh_lo s h k]
def kg_lw (s : kn_S) (t : Nat) (k n : Int32) : kn_S :=
  let s1 := kn_up (kn_up s 129 t k) 129 (t + 1) n
  let s2 := kn_up s1 129 (t + 2) (s1 129 9)
  kn_up s2 129 73 (s2 129 73 + 1)
def kg_log0 (s : kn_S) : kn_S := kn_up (kg_sh s 177) 129 73 (nI 59)
def kg_logs (s : kn_S) (k n : Int32) : kn_S := if s 129 73 = 60 then kg_lw (kg_log0 s) 251 k n else kg_lw s (74 + 3 * (s 129 73).toNatClampNeg) k n
theorem kg_lw_lo (s : kn_S) {t j : Nat} (k n : Int32) (ht : 74 ≤ t) (h : j < 73) : kg_lw s t k n 129 j = s 129 j := by
  dsimp only [kg_lw]
  rw [kn_upk (by omega), kn_upk (by omega), kn_upk (by omega), kn_upk (by omega)]
theorem kg_logs_lo (s : kn_S) {j : Nat} (k n : Int32) (h : j < 73) : kg_logs s k n 129 j = s 129 j := by
  unfold kg_logs
  split
  · rw [kg_lw_lo _ _ _ (by omega) h, kg_log0, kn_upk (by omega), kg_sh_lo s (by omega)]
  · rw [kg_lw_lo _ _ _ (by omega) h]
theorem kg_lw_73 (s : kn_S) {t : Nat} (k n : Int32) (ht : 74 ≤ t) : kg_lw s t k n 129 73 = s 129 73 + 1 := by
  dsimp only [kg_lw]
  have e : ∀ (s : kn_S) (v : Int32), kn_up s 129 73 v 129 73 = v := fun s v => by unfold kn_up; rw [if_pos ⟨rfl, rfl⟩]
  rw [e, kn_upk (by omega), kn_upk (by omega), kn_upk (by omega)]
theorem kg_logs_ok {s : kn_S} (k n : Int32) (h : kg_ok s) : kg_ok (kg_logs s k n) := by
  obtain ⟨lc, h1, h2⟩ := h
  unfold kg_logs
  split
  · refine ⟨60, by omega, ?_⟩
    rw [kg_lw_73 _ _ _ (by omega)]
    have e : ∀ (s : kn_S) (v : Int32), kn_up s 129 73 v 129 73 = v := fun s v => by unfold kn_up; rw [if_pos ⟨rfl, rfl⟩]
    rw [kg_log0, e]; rfl
  · rename_i h3
    refine ⟨lc + 1, ?_, ?_⟩
    · have : lc ≠ 60 := by intro q; subst q; exact h3 h2
      omega
    · rw [kg_lw_73 _ _ _ (by omega), h2, nI_1]
theorem kg_ok_of {s t : kn_S} (h : kg_ok s) (e : t 129 73 = s 129 73) : kg_ok t := by
  obtain ⟨lc, h1, h2⟩ := h
  exact ⟨lc, h1, e.trans h2⟩
def kg_s1 (s : kn_S) (e : Int32) : kn_S := if s 129 6 ≤ e then kn_up (kn_up s 129 13 0) 129 14 (kn_up s 129 13 0 129 14 + 1) else kn_up (kn_up s 129 13 (s 129 13 + 1)) 129 14 0
def kg_s3 (s : kn_S) : kn_S := if s 129 12 = 1 then (if s 129 14 < 50 then s else kg_logs (kn_up s 129 12 0) 2 0) else s
def kg_s2 (s : kn_S) : kn_S := if s 129 12 = 0 then (if s 129 13 < 20 then kg_s3 s else kg_logs (kn_up s 129 12 1) 1 0) else kg_s3 s
def kg_sen (s : kn_S) (e : Int32) : kn_S := kg_s2 (kg_s1 s e)
theorem kg_s1_o {s : kn_S} {j : Nat} (e : Int32) (h1 : j ≠ 13) (h2 : j ≠ 14) : kg_s1 s e 129 j = s 129 j := by
  unfold kg_s1
  split
  · rw [kn_upk h2, kn_upk h1]
  · rw [kn_upk h2, kn_upk h1]
theorem kg_s3_lo {s : kn_S} {j : Nat} (h1 : j ≠ 12) (h2 : j < 73) : kg_s3 s 129 j = s 129 j := by
  unfold kg_s3
  split
  · split
    · rfl
    · rw [kg_logs_lo _ _ _ h2, kn_upk h1]
  · rfl
theorem kg_s2_lo {s : kn_S} {j : Nat} (h1 : j ≠ 12) (h2 : j < 73) : kg_s2 s 129 j = s 129 j := by
  unfold kg_s2
  split
  · split
    · exact kg_s3_lo h1 h2
    · rw [kg_logs_lo _ _ _ h2, kn_upk h1]
  · exact kg_s3_lo h1 h2
theorem kg_s3_ok {s : kn_S} (h : kg_ok s) : kg_ok (kg_s3 s) := by
  unfold kg_s3
  split
  · split
    · exact h
    · exact kg_logs_ok _ _ (kg_ok_of h (kn_upk (by omega)))
  · exact h
theorem kg_sen_ok {s : kn_S} (e : Int32) (h : kg_ok s) : kg_ok (kg_sen s e) := by
  have h1 : kg_ok (kg_s1 s e) := kg_ok_of h (kg_s1_o e (by omega) (by omega))
  unfold kg_sen kg_s2
  split
  · split
    · exact kg_s3_ok h1
    · exact kg_logs_ok _ _ (kg_ok_of h1 (kn_upk (by omega)))
  · exact kg_s3_ok h1
theorem kg_sen_lo {s : kn_S} {j : Nat} (e : Int32) (h : j < 12) : kg_sen s e 129 j = s 129 j := by
  unfold kg_sen
  rw [kg_s2_lo (by omega) (by omega), kg_s1_o e (by omega) (by omega)]
def kg_kn (s : kn_S) (cc cl : Nat) (e t : Int32) : kn_S :=
  let its := kf_min (s 129 (17 + cc) + (s 129 1 + kf_min (3 * s 129 1) (s 129 1 * (e - t) / t))) (s 129 3 - s 129 (49 + cl))
  let s1 := kn_up s 129 (17 + cc) (if its ≤ s 129 (17 + cc) then s 129 (17 + cc) else its)
  let s2 := kn_up s1 129 (33 + cc) 0
  let s3 := kn_up s2 129 (41 + cc) (s2 129 (41 + cc) + 1)
  kg_logs s3 0 (nI cc)
def kg_re (s : kn_S) (cc : Nat) (e : Int32) : kn_S :=
  let s1 := kn_up s 129 (25 + cc) (s 129 (25 + cc) + kg_fl (256 * e - s 129 (25 + cc)) 16)
  let s2 := kn_up s1 129 (33 + cc) (s1 129 (33 + cc) + 1)
  if s2 129 (33 + cc) < s2 129 2 then s2 else
  let s3 := kn_up s2 129 (33 + cc) 0
  kn_up s3 129 (17 + cc) (s3 129 (17 + cc) - if s3 129 (17 + cc) ≤ 0 then 0 else 1)
def kg_gr (s : kn_S) : Nat → Int32
  | 0 => 0
  | j + 1 => if s 129 (17 + j) ≤ kg_gr s j then kg_gr s j else s 129 (17 + j)
def kg_ev (s : kn_S) (l : Int32) : Nat → kn_S
  | 0 => s
  | j + 1 => kn_up (kg_ev s l j) 129 (17 + j) (if l ≤ kg_ev s l j 129 (17 + j) then kg_ev s l j 129 (17 + j) else l)
def kg_dec (s : kn_S) : Nat → kn_S
  | 0 => s
  | j + 1 => kn_up (kg_dec s j) 129 (17 + j) (kg_dec s j 129 (17 + j) - if kg_dec s j 129 (17 + j) ≤ 0 then 0 else 1)
def kg_sum (s : kn_S) (b : Nat) : Nat → Int32
  | 0 => 0
  | j + 1 => kg_sum s b j + s 129 (b + j)
theorem kg_ev_o (s : kn_S) (l : Int32) {k : Nat} : ∀ j, j ≤ 8 → k < 17 ∨ 25 ≤ k → kg_ev s l j 129 k = s 129 k
  | 0, _, _ => rfl
  | j + 1, hj, h => by
    show kn_up (kg_ev s l j) 129 (17 + j) _ 129 k = s 129 k
    rw [kn_upk (by omega), kg_ev_o s l j (by omega) h]
theorem kg_dec_o (s : kn_S) {k : Nat} : ∀ j, j ≤ 8 → k < 17 ∨ 25 ≤ k → kg_dec s j 129 k = s 129 k
  | 0, _, _ => rfl
  | j + 1, hj, h => by
    show kn_up (kg_dec s j) 129 (17 + j) _ 129 k = s 129 k
    rw [kn_upk (by omega), kg_dec_o s j (by omega) h]
def kg_leL (s : kn_S) (cl : Nat) (mean : Int32) : kn_S := if 5 ≤ mean then s else if s 129 (49 + cl) ≤ 0 then s else kg_logs (kn_up s 129 (49 + cl) (s 129 (49 + cl) - 1)) 4 (nI cl)
def kg_leU (s : kn_S) (m cl : Nat) : kn_S := kg_logs (kg_dec (kn_up s 129 (49 + cl) (s 129 (49 + cl) + 1)) m) 3 (nI cl)
def kg_le (s : kn_S) (m cl : Nat) : kn_S := if kg_sum s 17 m / nI m ≤ 20 then kg_leL s cl (kg_sum s 17 m / nI m) else if 100 ≤ s 129 (49 + cl) then kg_leL s cl (kg_sum s 17 m / nI m) else kg_leU s m cl

set_option maxRecDepth 100000 in
set_option maxHeartbeats 4000000 in
theorem m_X7_begin {X : kn_X} {σ : kn_S} {τ : kn_T} {z : kn_Z} {c n : Nat} {Q : kn_Q} {sv : Nat} {x : Int32} (hM : kn_isM z) (hsv : σ 128 3 = nI sv) (hsv4 : sv ≤ 4) (hQ : ¬ (kf_within x 2 8) = 0 → Q (.inl (some (.int ((kg_saves (kn_up σ 128 4 0) sv) 129 9)))) (kg_begins (kg_saves (kn_up σ 128 4 0) sv) x) τ z) (hN : (kf_within x 2 8) = 0 → Q (.inl (some (.int (0)))) (kn_up σ 128 4 1) τ z) : kn_Ev X MX7_begin [.ref 128, .int x] σ τ z c n Q := by
  refine kn_entry (by decide +kernel) rfl (Nat.le_of_ble_eq_true rfl) ?_
  show kn_Go X MX7_begin 0 [(0, .ref 128), (1, .int x)] [] _ _ _ _ _ _
  refine k_aload_n 0 dX7_begin_0 rfl rfl ?_
  refine k_iload_n 1 dX7_begin_1 rfl rfl ?_
  refine k_iconst (2) dX7_begin_2 (by decide) ?_
  refine k_bipush (8) dX7_begin_3 (by decide) ?_
  refine k_invS (As := [_, _, _]) dX7_begin_5 mm_X7_within wL_X7_38 ⟨by decide, by decide⟩ rfl rfl (Nat.le_of_ble_eq_true rfl) (Nat.zero_le _) (Nat.zero_le _) (m_X7_within ⟨rfl, ?_⟩)
  refine k_ifeq 15 dX7_begin_8 (by decide) (fun h8 => ?_) (fun h8 => ?_)
  · refine k_iconst (1) dX7_begin_15 (by decide) ?_
    refine k_invV (As := [_]) dX7_begin_16 mm_X7_refused wL_X7_34 ⟨by decide, by decide⟩ hM.1.1 hM.1.2 rfl rfl (Nat.le_of_ble_eq_true rfl) (Nat.zero_le _) (Nat.zero_le _) (m_X7_refused (r := 1) hM rfl ⟨rfl, ?_⟩)
    refine k_ifeq 24 dX7_begin_19 (by decide) (fun h19 => ?_) (fun h19 => ?_)
    · exact absurd h19 (by decide)
    · refine k_iconst (0) dX7_begin_22 (by decide) ?_
      refine k_iret dX7_begin_23 rfl (rfl) ?_
      exact hN h8
  · refine k_iconst (0) dX7_begin_11 (by decide) ?_
    refine k_goto 16 dX7_begin_12 (by decide) ?_
    refine k_invV (As := [_]) dX7_begin_16 mm_X7_refused wL_X7_34 ⟨by decide, by decide⟩ hM.1.1 hM.1.2 rfl rfl (Nat.le_of_ble_eq_true rfl) (Nat.zero_le _) (Nat.zero_le _) (m_X7_refused (r := 0) hM rfl ⟨rfl, ?_⟩)
    refine k_ifeq 24 dX7_begin_19 (by decide) (fun h19 => ?_) (fun h19 => ?_)
    · refine k_aload_n 0 dX7_begin_24 rfl rfl ?_
      refine k_invV (As := []) dX7_begin_25 mm_X7_saves wL_X7_42 ⟨by decide, by decide⟩ hM.1.1 hM.1.2 rfl rfl (Nat.le_of_ble_eq_true rfl) (Nat.zero_le _) (Nat.zero_le _) (m_X7_saves (sv := sv) hM hsv hsv4 ⟨rfl, ?_⟩)
      refine k_aload_n 0 dX7_begin_28 rfl rfl ?_
      refine k_getfield dX7_begin_29 hc_X7 hM.1.1 hM.1.2 0 (by decide) wF_X7_7 rfl ?_
      refine k_bipush (9) dX7_begin_32 (by decide) ?_
      refine k_ialoadN (9) dX7_begin_34 hM.2.1.1 hM.2.1.2 (rfl) (⟨by omega, by decide⟩) ?_
      refine k_istore_n 2 (lv' := [(2, _), (0, _), (1, _)]) dX7_begin_35 rfl (by decide) rfl ?_
      refine k_aload_n 0 dX7_begin_36 rfl rfl ?_
      refine k_iload_n 1 dX7_begin_37 rfl rfl ?_
      refine k_invV (As := [_]) dX7_begin_38 mm_X7_begins wL_X7_22 ⟨by decide, by decide⟩ hM.1.1 hM.1.2 rfl rfl (Nat.le_of_ble_eq_true rfl) (Nat.zero_le _) (Nat.zero_le _) (m_X7_begins hM ⟨rfl, ?_⟩)
      refine k_iload_n 2 dX7_begin_41 rfl rfl ?_
      refine k_iret dX7_begin_42 rfl (rfl) ?_
      exact hQ h8
    · exact absurd rfl h19

set_option maxRecDepth 100000 in
set_option maxHeartbeats 4000000 in
theorem m_X7_isSetting {X : kn_X} {σ : kn_S} {τ : kn_T} {z : kn_Z} {c n : Nat} {Q : kn_Q} {w v : Int32} (hQ : Q (.inl (some (.int (kg_isSet w v)))) σ τ z) : kn_Ev X MX7_isSetting [.int w, .int v] σ τ z c n Q := by
  refine kn_entry (by decide +kernel) rfl (Nat.le_of_ble_eq_true rfl) ?_
  show kn_Go X MX7_isSetting 0 [(0, .int w), (1, .int v)] [] _ _ _ _ _ _
  refine k_iload_n 0 dX7_isSetting_0 rfl rfl ?_
  rcases kn_sw6 w with hsw | hsw | hsw | hsw | hsw | hsw | hsw | hsw
  · rw [hsw]
    refine k_tsIn 44 dX7_isSetting_1 (by decide) (by decide) rfl (by decide) ?_
    refine k_iload_n 1 dX7_isSetting_44 rfl rfl ?_
    refine k_bipush (16) dX7_isSetting_45 (by decide) ?_
    refine k_sipush (128) dX7_isSetting_47 (by decide) ?_
    refine k_invS (As := [_, _, _]) dX7_isSetting_50 mm_X7_within wL_X7_38 ⟨by decide, by decide⟩ rfl rfl (Nat.le_of_ble_eq_true rfl) (Nat.zero_le _) (Nat.zero_le _) (m_X7_within ⟨rfl, ?_⟩)
    refine k_iret dX7_isSetting_53 rfl (by rcases kf_within_01 v 16 128 with h9 | h9 <;> (rw [h9]; rfl)) ?_
    rw [hsw] at hQ
    exact hQ
  · rw [hsw]
    refine k_tsIn 54 dX7_isSetting_1 (by decide) (by decide) rfl (by decide) ?_
    refine k_iload_n 1 dX7_isSetting_54 rfl rfl ?_
    refine k_iconst (1) dX7_isSetting_55 (by decide) ?_
    refine k_bipush (50) dX7_isSetting_56 (by decide) ?_
    refine k_invS (As := [_, _, _]) dX7_isSetting_58 mm_X7_within wL_X7_38 ⟨by decide, by decide⟩ rfl rfl (Nat.le_of_ble_eq_true rfl) (Nat.zero_le _) (Nat.zero_le _) (m_X7_within ⟨rfl, ?_⟩)
    refine k_iret dX7_isSetting_61 rfl (by rcases kf_within_01 v 1 50 with h9 | h9 <;> (rw [h9]; rfl)) ?_
    rw [hsw] at hQ
    exact hQ
  · rw [hsw]
    refine k_tsIn 62 dX7_isSetting_1 (by decide) (by decide) rfl (by decide) ?_
    refine k_iload_n 1 dX7_isSetting_62 rfl rfl ?_
    refine k_iconst (1) dX7_isSetting_63 (by decide) ?_
    refine k_sipush (200) dX7_isSetting_64 (by decide) ?_
    refine k_invS (As := [_, _, _]) dX7_isSetting_67 mm_X7_within wL_X7_38 ⟨by decide, by decide⟩ rfl rfl (Nat.le_of_ble_eq_true rfl) (Nat.zero_le _) (Nat.zero_le _) (m_X7_within ⟨rfl, ?_⟩)
    refine k_iret dX7_isSetting_70 rfl (by rcases kf_within_01 v 1 200 with h9 | h9 <;> (rw [h9]; rfl)) ?_
    rw [hsw] at hQ
    exact hQ
  · rw [hsw]
    refine k_tsIn 71 dX7_isSetting_1 (by decide) (by decide) rfl (by decide) ?_
    refine k_iload_n 1 dX7_isSetting_71 rfl rfl ?_
    refine k_bipush (20) dX7_isSetting_72 (by decide) ?_
    refine k_sipush (200) dX7_isSetting_74 (by decide) ?_
    refine k_invS (As := [_, _, _]) dX7_isSetting_77 mm_X7_within wL_X7_38 ⟨by decide, by decide⟩ rfl rfl (Nat.le_of_ble_eq_true rfl) (Nat.zero_le _) (Nat.zero_le _) (m_X7_within ⟨rfl, ?_⟩)
    refine k_iret dX7_isSetting_80 rfl (by rcases kf_within_01 v 20 200 with h9 | h9 <;> (rw [h9]; rfl)) ?_
    rw [hsw] at hQ
    exact hQ
  · rw [hsw]
    refine k_tsIn 81 dX7_isSetting_1 (by decide) (by decide) rfl (by decide) ?_
    refine k_iload_n 1 dX7_isSetting_81 rfl rfl ?_
    refine k_iconst (0) dX7_isSetting_82 (by decide) ?_
    refine k_sipush (200) dX7_isSetting_83 (by decide) ?_
    refine k_invS (As := [_, _, _]) dX7_isSetting_86 mm_X7_within wL_X7_38 ⟨by decide, by decide⟩ rfl rfl (Nat.le_of_ble_eq_true rfl) (Nat.zero_le _) (Nat.zero_le _) (m_X7_within ⟨rfl, ?_⟩)
    refine k_iret dX7_isSetting_89 rfl (by rcases kf_within_01 v 0 200 with h9 | h9 <;> (rw [h9]; rfl)) ?_
    rw [hsw] at hQ
    exact hQ
  · rw [hsw]
    refine k_tsIn 90 dX7_isSetting_1 (by decide) (by decide) rfl (by decide) ?_
    refine k_iload_n 1 dX7_isSetting_90 rfl rfl ?_
    refine k_iconst (1) dX7_isSetting_91 (by decide) ?_
    refine k_sipush (500) dX7_isSetting_92 (by decide) ?_
    refine k_invS (As := [_, _, _]) dX7_isSetting_95 mm_X7_within wL_X7_38 ⟨by decide, by decide⟩ rfl rfl (Nat.le_of_ble_eq_true rfl) (Nat.zero_le _) (Nat.zero_le _) (m_X7_within ⟨rfl, ?_⟩)
    refine k_iret dX7_isSetting_98 rfl (by rcases kf_within_01 v 1 500 with h9 | h9 <;> (rw [h9]; rfl)) ?_
    rw [hsw] at hQ
    exact hQ
  · rw [hsw]
    refine k_tsIn 99 dX7_isSetting_1 (by decide) (by decide) rfl (by decide) ?_
    refine k_iload_n 1 dX7_isSetting_99 rfl rfl ?_
    refine k_iconst (0) dX7_isSetting_100 (by decide) ?_
    refine k_sipush (1000) dX7_isSetting_101 (by decide) ?_
    refine k_invS (As := [_, _, _]) dX7_isSetting_104 mm_X7_within wL_X7_38 ⟨by decide, by decide⟩ rfl rfl (Nat.le_of_ble_eq_true rfl) (Nat.zero_le _) (Nat.zero_le _) (m_X7_within ⟨rfl, ?_⟩)
    refine k_iret dX7_isSetting_107 rfl (by rcases kf_within_01 v 0 1000 with h9 | h9 <;> (rw [h9]; rfl)) ?_
    rw [hsw] at hQ
    exact hQ
  · refine k_tsOut 108 dX7_isSetting_1 hsw.2 (by decide) ?_
    refine k_iload_n 0 dX7_isSetting_108 rfl rfl ?_
    refine k_bipush (7) dX7_isSetting_109 (by decide) ?_
    refine k_icmpne 128 dX7_isSetting_111 (by decide) (fun h111 => ?_) (fun h111 => ?_)
    · refine k_iconst (0) dX7_isSetting_128 (by decide) ?_
      refine k_iret dX7_isSetting_129 rfl (rfl) ?_
      rw [kg_isSet, if_neg hsw.1.1, if_neg hsw.1.2.1, if_neg hsw.1.2.2.1, if_neg hsw.1.2.2.2.1, if_neg hsw.1.2.2.2.2.1, if_neg hsw.1.2.2.2.2.2.1, if_neg hsw.1.2.2.2.2.2.2] at hQ
      first
        | (rw [if_neg h111] at hQ; exact hQ)
        | (rw [if_pos (by assumption), if_pos (by assumption)] at hQ; exact hQ)
        | (rw [if_pos (by assumption), if_neg (by assumption)] at hQ; exact hQ)
    · refine k_iload_n 1 dX7_isSetting_114 rfl rfl ?_
      refine k_iconst (0) dX7_isSetting_115 (by decide) ?_
      refine k_bipush (100) dX7_isSetting_116 (by decide) ?_
      refine k_invS (As := [_, _, _]) dX7_isSetting_118 mm_X7_within wL_X7_38 ⟨by decide, by decide⟩ rfl rfl (Nat.le_of_ble_eq_true rfl) (Nat.zero_le _) (Nat.zero_le _) (m_X7_within ⟨rfl, ?_⟩)
      refine k_ifeq 128 dX7_isSetting_121 (by decide) (fun h121 => ?_) (fun h121 => ?_)
      · refine k_iconst (0) dX7_isSetting_128 (by decide) ?_
        refine k_iret dX7_isSetting_129 rfl (rfl) ?_
        rw [kg_isSet, if_neg hsw.1.1, if_neg hsw.1.2.1, if_neg hsw.1.2.2.1, if_neg hsw.1.2.2.2.1, if_neg hsw.1.2.2.2.2.1, if_neg hsw.1.2.2.2.2.2.1, if_neg hsw.1.2.2.2.2.2.2] at hQ
        first
          | (rw [if_neg h111] at hQ; exact hQ)
          | (rw [if_pos (by assumption), if_pos (by assumption)] at hQ; exact hQ)
          | (rw [if_pos (by assumption), if_neg (by assumption)] at hQ; exact hQ)
      · refine k_iconst (1) dX7_isSetting_124 (by decide) ?_
        refine k_goto 129 dX7_isSetting_125 (by decide) ?_
        refine k_iret dX7_isSetting_129 rfl (rfl) ?_
        rw [kg_isSet, if_neg hsw.1.1, if_neg hsw.1.2.1, if_neg hsw.1.2.2.1, if_neg hsw.1.2.2.2.1, if_neg hsw.1.2.2.2.2.1, if_neg hsw.1.2.2.2.2.2.1, if_neg hsw.1.2.2.2.2.2.2] at hQ
        first
          | (rw [if_neg h111] at hQ; exact hQ)
          | (rw [if_pos (by assumption), if_pos (by assumption)] at hQ; exact hQ)
          | (rw [if_pos (by assumption), if_neg (by assumption)] at hQ; exact hQ)

set_option maxRecDepth 100000 in
set_option maxHeartbeats 4000000 in
theorem m_X7_set {X : kn_X} {σ : kn_S} {τ : kn_T} {z : kn_Z} {c n : Nat} {Q : kn_Q} {sv : Nat} {x y : Int32} (hM : kn_isM z) (hsv : σ 128 3 = nI sv) (hsv4 : sv ≤ 4) (hQ : ∀ k, x = nI k → k < 8 → ¬ (kg_isSet x y) = 0 → Q (.inl (some (.int ((kg_saves (kn_up σ 128 4 0) sv) 129 k)))) (kn_up (kg_saves (kn_up σ 128 4 0) sv) 129 k y) τ z) (hN : (kg_isSet x y) = 0 → Q (.inl (some (.int (0)))) (kn_up σ 128 4 1) τ z) : kn_Ev X MX7_set [.ref 128, .int x, .int y] σ τ z c n Q := by
  refine kn_entry (by decide +kernel) rfl (Nat.le_of_ble_eq_true rfl) ?_
  show kn_Go X MX7_set 0 [(0, .ref 128), (1, .int x), (2, .int y)] [] _ _ _ _ _ _
  refine k_aload_n 0 dX7_set_0 rfl rfl ?_
  refine k_iload_n 1 dX7_set_1 rfl rfl ?_
  refine k_iload_n 2 dX7_set_2 rfl rfl ?_
  refine k_invS (As := [_, _]) dX7_set_3 mm_X7_isSetting wL_X7_45 ⟨by decide, by decide⟩ rfl rfl (Nat.le_of_ble_eq_true rfl) (Nat.zero_le _) (Nat.zero_le _) (m_X7_isSetting ⟨rfl, ?_⟩)
  refine k_ifeq 13 dX7_set_6 (by decide) (fun h6 => ?_) (fun h6 => ?_)
  · refine k_iconst (1) dX7_set_13 (by decide) ?_
    refine k_invV (As := [_]) dX7_set_14 mm_X7_refused wL_X7_34 ⟨by decide, by decide⟩ hM.1.1 hM.1.2 rfl rfl (Nat.le_of_ble_eq_true rfl) (Nat.zero_le _) (Nat.zero_le _) (m_X7_refused (r := 1) hM rfl ⟨rfl, ?_⟩)
    refine k_ifeq 22 dX7_set_17 (by decide) (fun h17 => ?_) (fun h17 => ?_)
    · exact absurd h17 (by decide)
    · refine k_iconst (0) dX7_set_20 (by decide) ?_
      refine k_iret dX7_set_21 rfl (rfl) ?_
      exact hN h6
  · obtain ⟨k, hk, hk8⟩ := kg_isSet_k h6
    refine k_iconst (0) dX7_set_9 (by decide) ?_
    refine k_goto 14 dX7_set_10 (by decide) ?_
    refine k_invV (As := [_]) dX7_set_14 mm_X7_refused wL_X7_34 ⟨by decide, by decide⟩ hM.1.1 hM.1.2 rfl rfl (Nat.le_of_ble_eq_true rfl) (Nat.zero_le _) (Nat.zero_le _) (m_X7_refused (r := 0) hM rfl ⟨rfl, ?_⟩)
    refine k_ifeq 22 dX7_set_17 (by decide) (fun h17 => ?_) (fun h17 => ?_)
    · refine k_aload_n 0 dX7_set_22 rfl rfl ?_
      refine k_invV (As := []) dX7_set_23 mm_X7_saves wL_X7_42 ⟨by decide, by decide⟩ hM.1.1 hM.1.2 rfl rfl (Nat.le_of_ble_eq_true rfl) (Nat.zero_le _) (Nat.zero_le _) (m_X7_saves (sv := sv) hM hsv hsv4 ⟨rfl, ?_⟩)
      refine k_aload_n 0 dX7_set_26 rfl rfl ?_
      refine k_getfield dX7_set_27 hc_X7 hM.1.1 hM.1.2 0 (by decide) wF_X7_7 rfl ?_
      refine k_iload_n 1 dX7_set_30 rfl rfl ?_
      refine k_ialoadN (k) dX7_set_31 hM.2.1.1 hM.2.1.2 (hk) (⟨by omega, by decide⟩) ?_
      refine k_istore_n 3 (lv' := [(3, _), (0, _), (1, _), (2, _)]) dX7_set_32 rfl (by decide) rfl ?_
      refine k_aload_n 0 dX7_set_33 rfl rfl ?_
      refine k_getfield dX7_set_34 hc_X7 hM.1.1 hM.1.2 0 (by decide) wF_X7_7 rfl ?_
      refine k_iload_n 1 dX7_set_37 rfl rfl ?_
      refine k_iload_n 2 dX7_set_38 rfl rfl ?_
      refine k_iastoreN (k) dX7_set_39 hM.2.1.1 hM.2.1.2 (hk) (⟨by omega, by decide⟩) ?_
      refine k_iload_n 3 dX7_set_40 rfl rfl ?_
      refine k_iret dX7_set_41 rfl (rfl) ?_
      exact hQ k hk hk8 h6
    · exact absurd rfl h17

set_option maxRecDepth 100000 in
set_option maxHeartbeats 4000000 in
theorem m_X7_value {X : kn_X} {σ : kn_S} {τ : kn_T} {z : kn_Z} {c n : Nat} {Q : kn_Q} {x : Int32} (hM : kn_isM z) (hQ : ∀ k, x = nI k → k ≤ 8 → Q (.inl (some (.int (σ 129 k)))) (kn_up σ 128 4 0) τ z) (hN : (kf_within x 0 8) = 0 → Q (.inl (some (.int (0)))) (kn_up σ 128 4 1) τ z) : kn_Ev X MX7_value [.ref 128, .int x] σ τ z c n Q := by
  refine kn_entry (by decide +kernel) rfl (Nat.le_of_ble_eq_true rfl) ?_
  show kn_Go X MX7_value 0 [(0, .ref 128), (1, .int x)] [] _ _ _ _ _ _
  refine k_aload_n 0 dX7_value_0 rfl rfl ?_
  refine k_iload_n 1 dX7_value_1 rfl rfl ?_
  refine k_iconst (0) dX7_value_2 (by decide) ?_
  refine k_bipush (8) dX7_value_3 (by decide) ?_
  refine k_invS (As := [_, _, _]) dX7_value_5 mm_X7_within wL_X7_38 ⟨by decide, by decide⟩ rfl rfl (Nat.le_of_ble_eq_true rfl) (Nat.zero_le _) (Nat.zero_le _) (m_X7_within ⟨rfl, ?_⟩)
  refine k_ifeq 15 dX7_value_8 (by decide) (fun h8 => ?_) (fun h8 => ?_)
  · refine k_iconst (1) dX7_value_15 (by decide) ?_
    refine k_invV (As := [_]) dX7_value_16 mm_X7_refused wL_X7_34 ⟨by decide, by decide⟩ hM.1.1 hM.1.2 rfl rfl (Nat.le_of_ble_eq_true rfl) (Nat.zero_le _) (Nat.zero_le _) (m_X7_refused (r := 1) hM rfl ⟨rfl, ?_⟩)
    refine k_ifeq 26 dX7_value_19 (by decide) (fun h19 => ?_) (fun h19 => ?_)
    · exact absurd h19 (by decide)
    · refine k_iconst (0) dX7_value_22 (by decide) ?_
      refine k_goto 32 dX7_value_23 (by decide) ?_
      refine k_iret dX7_value_32 rfl (rfl) ?_
      exact hN h8
  · obtain ⟨k, hk8, hk⟩ := kf_within_nI (n := 8) rfl (by decide) h8
    refine k_iconst (0) dX7_value_11 (by decide) ?_
    refine k_goto 16 dX7_value_12 (by decide) ?_
    refine k_invV (As := [_]) dX7_value_16 mm_X7_refused wL_X7_34 ⟨by decide, by decide⟩ hM.1.1 hM.1.2 rfl rfl (Nat.le_of_ble_eq_true rfl) (Nat.zero_le _) (Nat.zero_le _) (m_X7_refused (r := 0) hM rfl ⟨rfl, ?_⟩)
    refine k_ifeq 26 dX7_value_19 (by decide) (fun h19 => ?_) (fun h19 => ?_)
    · refine k_aload_n 0 dX7_value_26 rfl rfl ?_
      refine k_getfield dX7_value_27 hc_X7 hM.1.1 hM.1.2 0 (by decide) wF_X7_7 rfl ?_
      refine k_iload_n 1 dX7_value_30 rfl rfl ?_
      refine k_ialoadN (k) dX7_value_31 hM.2.1.1 hM.2.1.2 (hk) (⟨by omega, by decide⟩) ?_
      refine k_iret dX7_value_32 rfl (rfl) ?_
      exact hQ k hk hk8
    · exact absurd rfl h19

set_option maxRecDepth 100000 in
set_option maxHeartbeats 4000000 in
theorem m_X7_isCell {X : kn_X} {σ : kn_S} {τ : kn_T} {z : kn_Z} {c n : Nat} {Q : kn_Q} {x y : Int32} (hQ : Q (.inl (some (.int (kf_isCell x y)))) σ τ z) : kn_Ev X MX7_isCell [.int x, .int y] σ τ z c n Q := by
  refine kn_entry (by decide +kernel) rfl (Nat.le_of_ble_eq_true rfl) ?_
  show kn_Go X MX7_isCell 0 [(0, .int x), (1, .int y)] [] _ _ _ _ _ _
  refine k_iload_n 0 dX7_isCell_0 rfl rfl ?_
  refine k_iconst (0) dX7_isCell_1 (by decide) ?_
  refine k_iconst (5) dX7_isCell_2 (by decide) ?_
  refine k_invS (As := [_, _, _]) dX7_isCell_3 mm_X7_within wL_X7_38 ⟨by decide, by decide⟩ rfl rfl (Nat.le_of_ble_eq_true rfl) (Nat.zero_le _) (Nat.zero_le _) (m_X7_within ⟨rfl, ?_⟩)
  refine k_ifeq 22 dX7_isCell_6 (by decide) (fun h6 => ?_) (fun h6 => ?_)
  · refine k_iconst (0) dX7_isCell_22 (by decide) ?_
    refine k_iret dX7_isCell_23 rfl (rfl) ?_
    dsimp only [kf_isCell, kf_and] at hQ
    rw [if_pos h6] at hQ
    exact hQ
  · refine k_iload_n 1 dX7_isCell_9 rfl rfl ?_
    refine k_iconst (0) dX7_isCell_10 (by decide) ?_
    refine k_iconst (3) dX7_isCell_11 (by decide) ?_
    refine k_invS (As := [_, _, _]) dX7_isCell_12 mm_X7_within wL_X7_38 ⟨by decide, by decide⟩ rfl rfl (Nat.le_of_ble_eq_true rfl) (Nat.zero_le _) (Nat.zero_le _) (m_X7_within ⟨rfl, ?_⟩)
    refine k_ifeq 22 dX7_isCell_15 (by decide) (fun h15 => ?_) (fun h15 => ?_)
    · refine k_iconst (0) dX7_isCell_22 (by decide) ?_
      refine k_iret dX7_isCell_23 rfl (rfl) ?_
      dsimp only [kf_isCell, kf_and] at hQ
      rw [if_neg h6, if_pos h15] at hQ
      exact hQ
    · refine k_iconst (1) dX7_isCell_18 (by decide) ?_
      refine k_goto 23 dX7_isCell_19 (by decide) ?_
      refine k_iret dX7_isCell_23 rfl (rfl) ?_
      dsimp only [kf_isCell, kf_and] at hQ
      rw [if_neg h6, if_neg h15] at hQ
      exact hQ

set_option maxRecDepth 100000 in
set_option maxHeartbeats 4000000 in
theorem m_X7_teach {X : kn_X} {σ : kn_S} {τ : kn_T} {z : kn_Z} {c n : Nat} {Q : kn_Q} {sv : Nat} {x y w : Int32} (hM : kn_isM z) (hsv : σ 128 3 = nI sv) (hsv4 : sv ≤ 4) (hQ : ∀ r k, x = nI r → y = nI k → r ≤ 5 → k ≤ 3 → ¬ (kf_within w 0 100) = 0 → Q (.inl (some (.int ((kg_saves (kn_up σ 128 4 0) sv) 129 (49 + 4 * r + k))))) (kn_up (kg_saves (kn_up σ 128 4 0) sv) 129 (49 + 4 * r + k) w) τ z) (hNp : (kf_isCell x y) = 0 → Q (.inl (some (.int (0)))) (kn_up σ 128 4 1) τ z) (hN : ¬ (kf_isCell x y) = 0 → (kf_within w 0 100) = 0 → Q (.inl (some (.int (0)))) (kn_up σ 128 4 2) τ z) : kn_Ev X MX7_teach [.ref 128, .int x, .int y, .int w] σ τ z c n Q := by
  refine kn_entry (by decide +kernel) rfl (Nat.le_of_ble_eq_true rfl) ?_
  show kn_Go X MX7_teach 0 [(0, .ref 128), (1, .int x), (2, .int y), (3, .int w)] [] _ _ _ _ _ _
  refine k_aload_n 0 dX7_teach_0 rfl rfl ?_
  refine k_iload_n 1 dX7_teach_1 rfl rfl ?_
  refine k_iload_n 2 dX7_teach_2 rfl rfl ?_
  refine k_invS (As := [_, _]) dX7_teach_3 mm_X7_isCell wL_X7_49 ⟨by decide, by decide⟩ rfl rfl (Nat.le_of_ble_eq_true rfl) (Nat.zero_le _) (Nat.zero_le _) (m_X7_isCell ⟨rfl, ?_⟩)
  refine k_ifne 13 dX7_teach_6 (by decide) (fun h6 => ?_) (fun h6 => ?_)
  · obtain ⟨r, k, hr, hk, er, ek⟩ := kf_isCell_nI h6
    refine k_iload_n 3 dX7_teach_13 rfl rfl ?_
    refine k_iconst (0) dX7_teach_14 (by decide) ?_
    refine k_bipush (100) dX7_teach_15 (by decide) ?_
    refine k_invS (As := [_, _, _]) dX7_teach_17 mm_X7_within wL_X7_38 ⟨by decide, by decide⟩ rfl rfl (Nat.le_of_ble_eq_true rfl) (Nat.zero_le _) (Nat.zero_le _) (m_X7_within ⟨rfl, ?_⟩)
    refine k_ifeq 27 dX7_teach_20 (by decide) (fun h20 => ?_) (fun h20 => ?_)
    · refine k_iconst (2) dX7_teach_27 (by decide) ?_
      refine k_invV (As := [_]) dX7_teach_28 mm_X7_refused wL_X7_34 ⟨by decide, by decide⟩ hM.1.1 hM.1.2 rfl rfl (Nat.le_of_ble_eq_true rfl) (Nat.zero_le _) (Nat.zero_le _) (m_X7_refused (r := 1) hM rfl ⟨rfl, ?_⟩)
      refine k_ifeq 36 dX7_teach_31 (by decide) (fun h31 => ?_) (fun h31 => ?_)
      · exact absurd h31 (by decide)
      · refine k_iconst (0) dX7_teach_34 (by decide) ?_
        refine k_iret dX7_teach_35 rfl (rfl) ?_
        exact hN h6 h20
    · refine k_iconst (0) dX7_teach_23 (by decide) ?_
      refine k_goto 28 dX7_teach_24 (by decide) ?_
      refine k_invV (As := [_]) dX7_teach_28 mm_X7_refused wL_X7_34 ⟨by decide, by decide⟩ hM.1.1 hM.1.2 rfl rfl (Nat.le_of_ble_eq_true rfl) (Nat.zero_le _) (Nat.zero_le _) (m_X7_refused (r := 0) hM rfl ⟨rfl, ?_⟩)
      refine k_ifeq 36 dX7_teach_31 (by decide) (fun h31 => ?_) (fun h31 => ?_)
      · refine k_aload_n 0 dX7_teach_36 rfl rfl ?_
        refine k_invV (As := []) dX7_teach_37 mm_X7_saves wL_X7_42 ⟨by decide, by decide⟩ hM.1.1 hM.1.2 rfl rfl (Nat.le_of_ble_eq_true rfl) (Nat.zero_le _) (Nat.zero_le _) (m_X7_saves (sv := sv) hM hsv hsv4 ⟨rfl, ?_⟩)
        refine k_bipush (49) dX7_teach_40 (by decide) ?_
        refine k_iconst (4) dX7_teach_42 (by decide) ?_
        refine k_iload_n 1 dX7_teach_43 rfl rfl ?_
        refine k_imul dX7_teach_44 ?_
        refine k_iadd dX7_teach_45 ?_
        refine k_iload_n 2 dX7_teach_46 rfl rfl ?_
        refine k_iadd dX7_teach_47 ?_
        refine k_istore (lv' := [(4, _), (0, _), (1, _), (2, _), (3, _)]) dX7_teach_48 (by decide) rfl ?_
        refine k_aload_n 0 dX7_teach_50 rfl rfl ?_
        refine k_getfield dX7_teach_51 hc_X7 hM.1.1 hM.1.2 0 (by decide) wF_X7_7 rfl ?_
        refine k_iload dX7_teach_54 rfl ?_
        refine k_ialoadN (49 + 4 * r + k) dX7_teach_56 hM.2.1.1 hM.2.1.2 (kg_add (kg_add (a := 49) rfl (kg_mul (a := 4) rfl er)) ek) (⟨by omega, by decide⟩) ?_
        refine k_istore (lv' := [(5, _), (4, _), (0, _), (1, _), (2, _), (3, _)]) dX7_teach_57 (by decide) rfl ?_
        refine k_aload_n 0 dX7_teach_59 rfl rfl ?_
        refine k_getfield dX7_teach_60 hc_X7 hM.1.1 hM.1.2 0 (by decide) wF_X7_7 rfl ?_
        refine k_iload dX7_teach_63 rfl ?_
        refine k_iload_n 3 dX7_teach_65 rfl rfl ?_
        refine k_iastoreN (49 + 4 * r + k) dX7_teach_66 hM.2.1.1 hM.2.1.2 (kg_add (kg_add (a := 49) rfl (kg_mul (a := 4) rfl er)) ek) (⟨by omega, by decide⟩) ?_
        refine k_iload dX7_teach_67 rfl ?_
        refine k_iret dX7_teach_69 rfl (rfl) ?_
        exact hQ r k er ek hr hk h20
      · exact absurd rfl h31
  · refine k_iconst (1) dX7_teach_9 (by decide) ?_
    refine k_goto 28 dX7_teach_10 (by decide) ?_
    refine k_invV (As := [_]) dX7_teach_28 mm_X7_refused wL_X7_34 ⟨by decide, by decide⟩ hM.1.1 hM.1.2 rfl rfl (Nat.le_of_ble_eq_true rfl) (Nat.zero_le _) (Nat.zero_le _) (m_X7_refused (r := 1) hM rfl ⟨rfl, ?_⟩)
    refine k_ifeq 36 dX7_teach_31 (by decide) (fun h31 => ?_) (fun h31 => ?_)
    · exact absurd h31 (by decide)
    · refine k_iconst (0) dX7_teach_34 (by decide) ?_
      refine k_iret dX7_teach_35 rfl (rfl) ?_
      exact hNp h6

set_option maxRecDepth 100000 in
set_option maxHeartbeats 4000000 in
theorem m_X7_breakSensor {X : kn_X} {σ : kn_S} {τ : kn_T} {z : kn_Z} {c n : Nat} {Q : kn_Q} {sv : Nat} {x : Int32} (hM : kn_isM z) (hsv : σ 128 3 = nI sv) (hsv4 : sv ≤ 4) (hQ : Q (.inl (some (.int (if (kg_saves (kn_up σ 128 4 0) sv) 129 11 = 1 then 1 else 0)))) (kn_up (kg_saves (kn_up σ 128 4 0) sv) 129 11 (if x = 0 then 0 else 1)) τ z) : kn_Ev X MX7_breakSensor [.ref 128, .int x] σ τ z c n Q := by
  refine kn_entry (by decide +kernel) rfl (Nat.le_of_ble_eq_true rfl) ?_
  show kn_Go X MX7_breakSensor 0 [(0, .ref 128), (1, .int x)] [] _ _ _ _ _ _
  refine k_aload_n 0 dX7_breakSensor_0 rfl rfl ?_
  refine k_iconst (0) dX7_breakSensor_1 (by decide) ?_
  refine k_putfield dX7_breakSensor_2 hc_X7 hM.1.1 hM.1.2 4 (by decide) wF_X7_27 rfl rfl (t9 := .int) (by decide +kernel) rfl rfl ?_
  refine k_aload_n 0 dX7_breakSensor_5 rfl rfl ?_
  refine k_invV (As := []) dX7_breakSensor_6 mm_X7_saves wL_X7_42 ⟨by decide, by decide⟩ hM.1.1 hM.1.2 rfl rfl (Nat.le_of_ble_eq_true rfl) (Nat.zero_le _) (Nat.zero_le _) (m_X7_saves (sv := sv) hM hsv hsv4 ⟨rfl, ?_⟩)
  refine k_aload_n 0 dX7_breakSensor_9 rfl rfl ?_
  refine k_getfield dX7_breakSensor_10 hc_X7 hM.1.1 hM.1.2 0 (by decide) wF_X7_7 rfl ?_
  refine k_bipush (11) dX7_breakSensor_13 (by decide) ?_
  refine k_ialoadN (11) dX7_breakSensor_15 hM.2.1.1 hM.2.1.2 (rfl) (⟨by omega, by decide⟩) ?_
  refine k_iconst (1) dX7_breakSensor_16 (by decide) ?_
  refine k_icmpne 24 dX7_breakSensor_17 (by decide) (fun h17 => ?_) (fun h17 => ?_)
  · refine k_iconst (0) dX7_breakSensor_24 (by decide) ?_
    refine k_istore_n 2 (lv' := [(2, _), (0, _), (1, _)]) dX7_breakSensor_25 rfl (by decide) rfl ?_
    refine k_aload_n 0 dX7_breakSensor_26 rfl rfl ?_
    refine k_getfield dX7_breakSensor_27 hc_X7 hM.1.1 hM.1.2 0 (by decide) wF_X7_7 rfl ?_
    refine k_bipush (11) dX7_breakSensor_30 (by decide) ?_
    refine k_iload_n 1 dX7_breakSensor_32 rfl rfl ?_
    refine k_ifeq 40 dX7_breakSensor_33 (by decide) (fun h33 => ?_) (fun h33 => ?_)
    · refine k_iconst (0) dX7_breakSensor_40 (by decide) ?_
      refine k_iastoreN (11) dX7_breakSensor_41 hM.2.1.1 hM.2.1.2 (rfl) (⟨by omega, by decide⟩) ?_
      refine k_iload_n 2 dX7_breakSensor_42 rfl rfl ?_
      refine k_iret dX7_breakSensor_43 rfl (rfl) ?_
      rw [if_neg h17, if_pos h33] at hQ
      exact hQ
    · refine k_iconst (1) dX7_breakSensor_36 (by decide) ?_
      refine k_goto 41 dX7_breakSensor_37 (by decide) ?_
      refine k_iastoreN (11) dX7_breakSensor_41 hM.2.1.1 hM.2.1.2 (rfl) (⟨by omega, by decide⟩) ?_
      refine k_iload_n 2 dX7_breakSensor_42 rfl rfl ?_
      refine k_iret dX7_breakSensor_43 rfl (rfl) ?_
      rw [if_neg h17, if_neg h33] at hQ
      exact hQ
  · refine k_iconst (1) dX7_breakSensor_20 (by decide) ?_
    refine k_goto 25 dX7_breakSensor_21 (by decide) ?_
    refine k_istore_n 2 (lv' := [(2, _), (0, _), (1, _)]) dX7_breakSensor_25 rfl (by decide) rfl ?_
    refine k_aload_n 0 dX7_breakSensor_26 rfl rfl ?_
    refine k_getfield dX7_breakSensor_27 hc_X7 hM.1.1 hM.1.2 0 (by decide) wF_X7_7 rfl ?_
    refine k_bipush (11) dX7_breakSensor_30 (by decide) ?_
    refine k_iload_n 1 dX7_breakSensor_32 rfl rfl ?_
    refine k_ifeq 40 dX7_breakSensor_33 (by decide) (fun h33 => ?_) (fun h33 => ?_)
    · refine k_iconst (0) dX7_breakSensor_40 (by decide) ?_
      refine k_iastoreN (11) dX7_breakSensor_41 hM.2.1.1 hM.2.1.2 (rfl) (⟨by omega, by decide⟩) ?_
      refine k_iload_n 2 dX7_breakSensor_42 rfl rfl ?_
      refine k_iret dX7_breakSensor_43 rfl (rfl) ?_
      rw [if_pos h17, if_pos h33] at hQ
      exact hQ
    · refine k_iconst (1) dX7_breakSensor_36 (by decide) ?_
      refine k_goto 41 dX7_breakSensor_37 (by decide) ?_
      refine k_iastoreN (11) dX7_breakSensor_41 hM.2.1.1 hM.2.1.2 (rfl) (⟨by omega, by decide⟩) ?_
      refine k_iload_n 2 dX7_breakSensor_42 rfl rfl ?_
      refine k_iret dX7_breakSensor_43 rfl (rfl) ?_
      rw [if_pos h17, if_neg h33] at hQ
      exact hQ

set_option maxRecDepth 100000 in
set_option maxHeartbeats 4000000 in
theorem m_X7_seed {X : kn_X} {σ : kn_S} {τ : kn_T} {z : kn_Z} {c n : Nat} {Q : kn_Q} {sv : Nat} {x : Int32} (hM : kn_isM z) (hsv : σ 128 3 = nI sv) (hsv4 : sv ≤ 4) (hQ : ¬ (kf_within x 0 999999) = 0 → Q (.inl (some (.int ((kg_saves (kn_up σ 128 4 0) sv) 129 10)))) (kn_up (kg_saves (kn_up σ 128 4 0) sv) 129 10 x) τ z) (hN : (kf_within x 0 999999) = 0 → Q (.inl (some (.int (0)))) (kn_up σ 128 4 1) τ z) : kn_Ev X MX7_seed [.ref 128, .int x] σ τ z c n Q := by
  refine kn_entry (by decide +kernel) rfl (Nat.le_of_ble_eq_true rfl) ?_
  show kn_Go X MX7_seed 0 [(0, .ref 128), (1, .int x)] [] _ _ _ _ _ _
  refine k_aload_n 0 dX7_seed_0 rfl rfl ?_
  refine k_iload_n 1 dX7_seed_1 rfl rfl ?_
  refine k_iconst (0) dX7_seed_2 (by decide) ?_
  refine k_ldc dX7_seed_3 wK_X7_52 ?_
  refine k_invS (As := [_, _, _]) dX7_seed_5 mm_X7_within wL_X7_38 ⟨by decide, by decide⟩ rfl rfl (Nat.le_of_ble_eq_true rfl) (Nat.zero_le _) (Nat.zero_le _) (m_X7_within ⟨rfl, ?_⟩)
  refine k_ifeq 15 dX7_seed_8 (by decide) (fun h8 => ?_) (fun h8 => ?_)
  · refine k_iconst (1) dX7_seed_15 (by decide) ?_
    refine k_invV (As := [_]) dX7_seed_16 mm_X7_refused wL_X7_34 ⟨by decide, by decide⟩ hM.1.1 hM.1.2 rfl rfl (Nat.le_of_ble_eq_true rfl) (Nat.zero_le _) (Nat.zero_le _) (m_X7_refused (r := 1) hM rfl ⟨rfl, ?_⟩)
    refine k_ifeq 24 dX7_seed_19 (by decide) (fun h19 => ?_) (fun h19 => ?_)
    · exact absurd h19 (by decide)
    · refine k_iconst (0) dX7_seed_22 (by decide) ?_
      refine k_iret dX7_seed_23 rfl (rfl) ?_
      exact hN h8
  · refine k_iconst (0) dX7_seed_11 (by decide) ?_
    refine k_goto 16 dX7_seed_12 (by decide) ?_
    refine k_invV (As := [_]) dX7_seed_16 mm_X7_refused wL_X7_34 ⟨by decide, by decide⟩ hM.1.1 hM.1.2 rfl rfl (Nat.le_of_ble_eq_true rfl) (Nat.zero_le _) (Nat.zero_le _) (m_X7_refused (r := 0) hM rfl ⟨rfl, ?_⟩)
    refine k_ifeq 24 dX7_seed_19 (by decide) (fun h19 => ?_) (fun h19 => ?_)
    · refine k_aload_n 0 dX7_seed_24 rfl rfl ?_
      refine k_invV (As := []) dX7_seed_25 mm_X7_saves wL_X7_42 ⟨by decide, by decide⟩ hM.1.1 hM.1.2 rfl rfl (Nat.le_of_ble_eq_true rfl) (Nat.zero_le _) (Nat.zero_le _) (m_X7_saves (sv := sv) hM hsv hsv4 ⟨rfl, ?_⟩)
      refine k_aload_n 0 dX7_seed_28 rfl rfl ?_
      refine k_getfield dX7_seed_29 hc_X7 hM.1.1 hM.1.2 0 (by decide) wF_X7_7 rfl ?_
      refine k_bipush (10) dX7_seed_32 (by decide) ?_
      refine k_ialoadN (10) dX7_seed_34 hM.2.1.1 hM.2.1.2 (rfl) (⟨by omega, by decide⟩) ?_
      refine k_istore_n 2 (lv' := [(2, _), (0, _), (1, _)]) dX7_seed_35 rfl (by decide) rfl ?_
      refine k_aload_n 0 dX7_seed_36 rfl rfl ?_
      refine k_getfield dX7_seed_37 hc_X7 hM.1.1 hM.1.2 0 (by decide) wF_X7_7 rfl ?_
      refine k_bipush (10) dX7_seed_40 (by decide) ?_
      refine k_iload_n 1 dX7_seed_42 rfl rfl ?_
      refine k_iastoreN (10) dX7_seed_43 hM.2.1.1 hM.2.1.2 (rfl) (⟨by omega, by decide⟩) ?_
      refine k_iload_n 2 dX7_seed_44 rfl rfl ?_
      refine k_iret dX7_seed_45 rfl (rfl) ?_
      exact hQ h8
    · exact absurd rfl h19

set_option maxRecDepth 100000 in
set_option maxHeartbeats 4000000 in
theorem m_X7_isPoint {X : kn_X} {σ : kn_S} {τ : kn_T} {z : kn_Z} {c n : Nat} {Q : kn_Q} {x y : Int32} (hQ : Q (.inl (some (.int (kf_isOp x y)))) σ τ z) : kn_Ev X MX7_isPoint [.int x, .int y] σ τ z c n Q := by
  refine kn_entry (by decide +kernel) rfl (Nat.le_of_ble_eq_true rfl) ?_
  show kn_Go X MX7_isPoint 0 [(0, .int x), (1, .int y)] [] _ _ _ _ _ _
  refine k_iload_n 0 dX7_isPoint_0 rfl rfl ?_
  refine k_sipush (500) dX7_isPoint_1 (by decide) ?_
  refine k_sipush (7000) dX7_isPoint_4 (by decide) ?_
  refine k_invS (As := [_, _, _]) dX7_isPoint_7 mm_X7_within wL_X7_38 ⟨by decide, by decide⟩ rfl rfl (Nat.le_of_ble_eq_true rfl) (Nat.zero_le _) (Nat.zero_le _) (m_X7_within ⟨rfl, ?_⟩)
  refine k_ifeq 27 dX7_isPoint_10 (by decide) (fun h10 => ?_) (fun h10 => ?_)
  · refine k_iconst (0) dX7_isPoint_27 (by decide) ?_
    refine k_iret dX7_isPoint_28 rfl (rfl) ?_
    dsimp only [kf_isOp, kf_and] at hQ
    rw [if_pos h10] at hQ
    exact hQ
  · refine k_iload_n 1 dX7_isPoint_13 rfl rfl ?_
    refine k_iconst (0) dX7_isPoint_14 (by decide) ?_
    refine k_bipush (100) dX7_isPoint_15 (by decide) ?_
    refine k_invS (As := [_, _, _]) dX7_isPoint_17 mm_X7_within wL_X7_38 ⟨by decide, by decide⟩ rfl rfl (Nat.le_of_ble_eq_true rfl) (Nat.zero_le _) (Nat.zero_le _) (m_X7_within ⟨rfl, ?_⟩)
    refine k_ifeq 27 dX7_isPoint_20 (by decide) (fun h20 => ?_) (fun h20 => ?_)
    · refine k_iconst (0) dX7_isPoint_27 (by decide) ?_
      refine k_iret dX7_isPoint_28 rfl (rfl) ?_
      dsimp only [kf_isOp, kf_and] at hQ
      rw [if_neg h10, if_pos h20] at hQ
      exact hQ
    · refine k_iconst (1) dX7_isPoint_23 (by decide) ?_
      refine k_goto 28 dX7_isPoint_24 (by decide) ?_
      refine k_iret dX7_isPoint_28 rfl (rfl) ?_
      dsimp only [kf_isOp, kf_and] at hQ
      rw [if_neg h10, if_neg h20] at hQ
      exact hQ

set_option maxRecDepth 100000 in
set_option maxHeartbeats 4000000 in
theorem m_X7_isOctane {X : kn_X} {σ : kn_S} {τ : kn_T} {z : kn_Z} {c n : Nat} {Q : kn_Q} {x : Int32} (hQ : Q (.inl (some (.int (kf_within x 80 110)))) σ τ z) : kn_Ev X MX7_isOctane [.int x] σ τ z c n Q := by
  refine kn_entry (by decide +kernel) rfl (Nat.le_of_ble_eq_true rfl) ?_
  show kn_Go X MX7_isOctane 0 [(0, .int x)] [] _ _ _ _ _ _
  refine k_iload_n 0 dX7_isOctane_0 rfl rfl ?_
  refine k_bipush (80) dX7_isOctane_1 (by decide) ?_
  refine k_bipush (110) dX7_isOctane_3 (by decide) ?_
  refine k_invS (As := [_, _, _]) dX7_isOctane_5 mm_X7_within wL_X7_38 ⟨by decide, by decide⟩ rfl rfl (Nat.le_of_ble_eq_true rfl) (Nat.zero_le _) (Nat.zero_le _) (m_X7_within ⟨rfl, ?_⟩)
  refine k_iret dX7_isOctane_8 rfl (by rcases kf_within_01 x 80 110 with h9 | h9 <;> (rw [h9]; rfl)) ?_
  exact hQ

set_option maxRecDepth 100000 in
set_option maxHeartbeats 4000000 in
theorem m_X7_cellOf {X : kn_X} {σ : kn_S} {τ : kn_T} {z : kn_Z} {c n : Nat} {Q : kn_Q} {x y : Int32} (hQ : Q (.inl (some (.int (kf_cell x y)))) σ τ z) : kn_Ev X MX7_cellOf [.int x, .int y] σ τ z c n Q := by
  refine kn_entry (by decide +kernel) rfl (Nat.le_of_ble_eq_true rfl) ?_
  show kn_Go X MX7_cellOf 0 [(0, .int x), (1, .int y)] [] _ _ _ _ _ _
  refine k_iconst (4) dX7_cellOf_0 (by decide) ?_
  refine k_iload_n 0 dX7_cellOf_1 rfl rfl ?_
  refine k_sipush (500) dX7_cellOf_2 (by decide) ?_
  refine k_isub dX7_cellOf_5 ?_
  refine k_sipush (1000) dX7_cellOf_6 (by decide) ?_
  refine k_idiv dX7_cellOf_9 (by decide) ?_
  refine k_iconst (5) dX7_cellOf_10 (by decide) ?_
  refine k_invS (As := [_, _]) dX7_cellOf_11 mm_X7_lesser wL_X7_53 ⟨by decide, by decide⟩ rfl rfl (Nat.le_of_ble_eq_true rfl) (Nat.zero_le _) (Nat.zero_le _) (m_X7_lesser ⟨rfl, ?_⟩)
  refine k_imul dX7_cellOf_14 ?_
  refine k_iload_n 1 dX7_cellOf_15 rfl rfl ?_
  refine k_bipush (25) dX7_cellOf_16 (by decide) ?_
  refine k_idiv dX7_cellOf_18 (by decide) ?_
  refine k_iconst (3) dX7_cellOf_19 (by decide) ?_
  refine k_invS (As := [_, _]) dX7_cellOf_20 mm_X7_lesser wL_X7_53 ⟨by decide, by decide⟩ rfl rfl (Nat.le_of_ble_eq_true rfl) (Nat.zero_le _) (Nat.zero_le _) (m_X7_lesser ⟨rfl, ?_⟩)
  refine k_iadd dX7_cellOf_23 ?_
  refine k_iret dX7_cellOf_24 rfl (rfl) ?_
  exact hQ

set_option maxRecDepth 100000 in
set_option maxHeartbeats 4000000 in
theorem m_X7_knockLimit {X : kn_X} {σ : kn_S} {τ : kn_T} {z : kn_Z} {c n : Nat} {Q : kn_Q} {x y w : Int32} (hQ : Q (.inl (some (.int (kf_klim x y w)))) σ τ z) : kn_Ev X MX7_knockLimit [.int x, .int y, .int w] σ τ z c n Q := by
  refine kn_entry (by decide +kernel) rfl (Nat.le_of_ble_eq_true rfl) ?_
  show kn_Go X MX7_knockLimit 0 [(0, .int x), (1, .int y), (2, .int w)] [] _ _ _ _ _ _
  refine k_sipush (150) dX7_knockLimit_0 (by decide) ?_
  refine k_iload_n 0 dX7_knockLimit_3 rfl rfl ?_
  refine k_bipush (60) dX7_knockLimit_4 (by decide) ?_
  refine k_idiv dX7_knockLimit_6 (by decide) ?_
  refine k_iadd dX7_knockLimit_7 ?_
  refine k_iload_n 1 dX7_knockLimit_8 rfl rfl ?_
  refine k_iconst (3) dX7_knockLimit_9 (by decide) ?_
  refine k_imul dX7_knockLimit_10 ?_
  refine k_iconst (2) dX7_knockLimit_11 (by decide) ?_
  refine k_idiv dX7_knockLimit_12 (by decide) ?_
  refine k_isub dX7_knockLimit_13 ?_
  refine k_iload_n 2 dX7_knockLimit_14 rfl rfl ?_
  refine k_bipush (95) dX7_knockLimit_15 (by decide) ?_
  refine k_isub dX7_knockLimit_17 ?_
  refine k_bipush (8) dX7_knockLimit_18 (by decide) ?_
  refine k_imul dX7_knockLimit_20 ?_
  refine k_iadd dX7_knockLimit_21 ?_
  refine k_iret dX7_knockLimit_22 rfl (rfl) ?_
  exact hQ

set_option maxRecDepth 100000 in
set_option maxHeartbeats 4000000 in
theorem m_X7_retard {X : kn_X} {σ : kn_S} {τ : kn_T} {z : kn_Z} {c n : Nat} {Q : kn_Q} {cc cl : Nat} (hM : kn_isM z) (hcc : cc < 8) (hcl : cl < 24) (hQ : Q (.inl (some (.int (kg_ret σ cc cl)))) σ τ z) : kn_Ev X MX7_retard [.ref 128, .int (nI cc), .int (nI cl)] σ τ z c n Q := by
  refine kn_entry (by decide +kernel) rfl (Nat.le_of_ble_eq_true rfl) ?_
  show kn_Go X MX7_retard 0 [(0, .ref 128), (1, .int (nI cc)), (2, .int (nI cl))] [] _ _ _ _ _ _
  refine k_aload_n 0 dX7_retard_0 rfl rfl ?_
  refine k_getfield dX7_retard_1 hc_X7 hM.1.1 hM.1.2 0 (by decide) wF_X7_7 rfl ?_
  refine k_bipush (12) dX7_retard_4 (by decide) ?_
  refine k_ialoadN (12) dX7_retard_6 hM.2.1.1 hM.2.1.2 (rfl) (⟨by omega, by decide⟩) ?_
  refine k_iconst (1) dX7_retard_7 (by decide) ?_
  refine k_icmpne 21 dX7_retard_8 (by decide) (fun h8 => ?_) (fun h8 => ?_)
  · refine k_aload_n 0 dX7_retard_21 rfl rfl ?_
    refine k_getfield dX7_retard_22 hc_X7 hM.1.1 hM.1.2 0 (by decide) wF_X7_7 rfl ?_
    refine k_bipush (17) dX7_retard_25 (by decide) ?_
    refine k_iload_n 1 dX7_retard_27 rfl rfl ?_
    refine k_iadd dX7_retard_28 ?_
    refine k_ialoadN ((17 + cc)) dX7_retard_29 hM.2.1.1 hM.2.1.2 ((kg_add rfl rfl)) (⟨by omega, by decide⟩) ?_
    refine k_aload_n 0 dX7_retard_30 rfl rfl ?_
    refine k_getfield dX7_retard_31 hc_X7 hM.1.1 hM.1.2 0 (by decide) wF_X7_7 rfl ?_
    refine k_bipush (49) dX7_retard_34 (by decide) ?_
    refine k_iload_n 2 dX7_retard_36 rfl rfl ?_
    refine k_iadd dX7_retard_37 ?_
    refine k_ialoadN ((49 + cl)) dX7_retard_38 hM.2.1.1 hM.2.1.2 ((kg_add rfl rfl)) (⟨by omega, by decide⟩) ?_
    refine k_iadd dX7_retard_39 ?_
    refine k_aload_n 0 dX7_retard_40 rfl rfl ?_
    refine k_getfield dX7_retard_41 hc_X7 hM.1.1 hM.1.2 0 (by decide) wF_X7_7 rfl ?_
    refine k_iconst (3) dX7_retard_44 (by decide) ?_
    refine k_ialoadN (3) dX7_retard_45 hM.2.1.1 hM.2.1.2 (rfl) (⟨by omega, by decide⟩) ?_
    refine k_invS (As := [_, _]) dX7_retard_46 mm_X7_lesser wL_X7_53 ⟨by decide, by decide⟩ rfl rfl (Nat.le_of_ble_eq_true rfl) (Nat.zero_le _) (Nat.zero_le _) (m_X7_lesser ⟨rfl, ?_⟩)
    refine k_iret dX7_retard_49 rfl (rfl) ?_
    dsimp only [kg_ret] at hQ
    rw [if_neg h8] at hQ
    exact hQ
  · refine k_aload_n 0 dX7_retard_11 rfl rfl ?_
    refine k_getfield dX7_retard_12 hc_X7 hM.1.1 hM.1.2 0 (by decide) wF_X7_7 rfl ?_
    refine k_bipush (7) dX7_retard_15 (by decide) ?_
    refine k_ialoadN (7) dX7_retard_17 hM.2.1.1 hM.2.1.2 (rfl) (⟨by omega, by decide⟩) ?_
    refine k_goto 30 dX7_retard_18 (by decide) ?_
    refine k_aload_n 0 dX7_retard_30 rfl rfl ?_
    refine k_getfield dX7_retard_31 hc_X7 hM.1.1 hM.1.2 0 (by decide) wF_X7_7 rfl ?_
    refine k_bipush (49) dX7_retard_34 (by decide) ?_
    refine k_iload_n 2 dX7_retard_36 rfl rfl ?_
    refine k_iadd dX7_retard_37 ?_
    refine k_ialoadN ((49 + cl)) dX7_retard_38 hM.2.1.1 hM.2.1.2 ((kg_add rfl rfl)) (⟨by omega, by decide⟩) ?_
    refine k_iadd dX7_retard_39 ?_
    refine k_aload_n 0 dX7_retard_40 rfl rfl ?_
    refine k_getfield dX7_retard_41 hc_X7 hM.1.1 hM.1.2 0 (by decide) wF_X7_7 rfl ?_
    refine k_iconst (3) dX7_retard_44 (by decide) ?_
    refine k_ialoadN (3) dX7_retard_45 hM.2.1.1 hM.2.1.2 (rfl) (⟨by omega, by decide⟩) ?_
    refine k_invS (As := [_, _]) dX7_retard_46 mm_X7_lesser wL_X7_53 ⟨by decide, by decide⟩ rfl rfl (Nat.le_of_ble_eq_true rfl) (Nat.zero_le _) (Nat.zero_le _) (m_X7_lesser ⟨rfl, ?_⟩)
    refine k_iret dX7_retard_49 rfl (rfl) ?_
    dsimp only [kg_ret] at hQ
    rw [if_pos h8] at hQ
    exact hQ

set_option maxRecDepth 100000 in
set_option maxHeartbeats 4000000 in
theorem m_X7_advance {X : kn_X} {σ : kn_S} {τ : kn_T} {z : kn_Z} {c n : Nat} {Q : kn_Q} {cc cl : Nat} {x y : Int32} (hM : kn_isM z) (hcc : cc < 8) (hcl : cl < 24) (hce : kf_cell x y = nI cl) (hQ : Q (.inl (some (.int (100 + x / 50 - y - kg_ret σ cc cl)))) σ τ z) : kn_Ev X MX7_advance [.ref 128, .int (nI cc), .int x, .int y] σ τ z c n Q := by
  refine kn_entry (by decide +kernel) rfl (Nat.le_of_ble_eq_true rfl) ?_
  show kn_Go X MX7_advance 0 [(0, .ref 128), (1, .int (nI cc)), (2, .int x), (3, .int y)] [] _ _ _ _ _ _
  refine k_bipush (100) dX7_advance_0 (by decide) ?_
  refine k_iload_n 2 dX7_advance_2 rfl rfl ?_
  refine k_bipush (50) dX7_advance_3 (by decide) ?_
  refine k_idiv dX7_advance_5 (by decide) ?_
  refine k_iadd dX7_advance_6 ?_
  refine k_iload_n 3 dX7_advance_7 rfl rfl ?_
  refine k_isub dX7_advance_8 ?_
  refine k_aload_n 0 dX7_advance_9 rfl rfl ?_
  refine k_iload_n 1 dX7_advance_10 rfl rfl ?_
  refine k_iload_n 2 dX7_advance_11 rfl rfl ?_
  refine k_iload_n 3 dX7_advance_12 rfl rfl ?_
  refine k_invS (As := [_, _]) dX7_advance_13 mm_X7_cellOf wL_X7_57 ⟨by decide, by decide⟩ rfl rfl (Nat.le_of_ble_eq_true rfl) (Nat.zero_le _) (Nat.zero_le _) (m_X7_cellOf ⟨rfl, ?_⟩)
  rw [hce]
  refine k_invV (As := [_, _]) dX7_advance_16 mm_X7_retard wL_X7_60 ⟨by decide, by decide⟩ hM.1.1 hM.1.2 rfl rfl (Nat.le_of_ble_eq_true rfl) (Nat.zero_le _) (Nat.zero_le _) (m_X7_retard (cc := cc) (cl := cl) hM hcc hcl ⟨rfl, ?_⟩)
  refine k_isub dX7_advance_19 ?_
  refine k_iret dX7_advance_20 rfl (rfl) ?_
  exact hQ

set_option maxRecDepth 100000 in
set_option maxHeartbeats 4000000 in
theorem m_X7_threshold {X : kn_X} {σ : kn_S} {τ : kn_T} {z : kn_Z} {c n : Nat} {Q : kn_Q} {cc : Nat} (hM : kn_isM z) (hcc : cc < 8) (hQ : Q (.inl (some (.int (kg_thr σ cc)))) σ τ z) : kn_Ev X MX7_threshold [.ref 128, .int (nI cc)] σ τ z c n Q := by
  refine kn_entry (by decide +kernel) rfl (Nat.le_of_ble_eq_true rfl) ?_
  show kn_Go X MX7_threshold 0 [(0, .ref 128), (1, .int (nI cc))] [] _ _ _ _ _ _
  refine k_aload_n 0 dX7_threshold_0 rfl rfl ?_
  refine k_getfield dX7_threshold_1 hc_X7 hM.1.1 hM.1.2 0 (by decide) wF_X7_7 rfl ?_
  refine k_bipush (25) dX7_threshold_4 (by decide) ?_
  refine k_iload_n 1 dX7_threshold_6 rfl rfl ?_
  refine k_iadd dX7_threshold_7 ?_
  refine k_ialoadN ((25 + cc)) dX7_threshold_8 hM.2.1.1 hM.2.1.2 ((kg_add rfl rfl)) (⟨by omega, by decide⟩) ?_
  refine k_aload_n 0 dX7_threshold_9 rfl rfl ?_
  refine k_getfield dX7_threshold_10 hc_X7 hM.1.1 hM.1.2 0 (by decide) wF_X7_7 rfl ?_
  refine k_iconst (0) dX7_threshold_13 (by decide) ?_
  refine k_ialoadN (0) dX7_threshold_14 hM.2.1.1 hM.2.1.2 (rfl) (⟨by omega, by decide⟩) ?_
  refine k_imul dX7_threshold_15 ?_
  refine k_sipush (4096) dX7_threshold_16 (by decide) ?_
  refine k_idiv dX7_threshold_19 (by decide) ?_
  refine k_bipush (50) dX7_threshold_20 (by decide) ?_
  refine k_iadd dX7_threshold_22 ?_
  refine k_iret dX7_threshold_23 rfl (rfl) ?_
  dsimp only [kg_thr] at hQ
  exact hQ

set_option maxRecDepth 100000 in
set_option maxHeartbeats 4000000 in
theorem m_X7_logs {X : kn_X} {σ : kn_S} {τ : kn_T} {z : kn_Z} {c n9 : Nat} {Q : kn_Q} {k n : Int32} (hM : kn_isM z) (hok : kg_ok σ) (hQ : Q (.inl none) (kg_logs σ k n) τ z) : kn_Ev X MX7_logs [.ref 128, .int k, .int n] σ τ z c n9 Q := by
  refine kn_entry (by decide +kernel) rfl (Nat.le_of_ble_eq_true rfl) ?_
  show kn_Go X MX7_logs 0 [(0, .ref 128), (1, .int k), (2, .int n)] [] _ _ _ _ _ _
  have cut58 : ∀ (l9 : Nat) (s9 : kn_S), s9 129 73 = nI l9 → l9 ≤ 59 → Q (.inl none) (kg_lw s9 (74 + 3 * l9) k n) τ z → kn_Go X MX7_logs 58 [(0, .ref 128), (1, .int k), (2, .int n)] [] s9 τ z c n9 Q := by
    intro l9 s9 h73 hl9 hQ
    refine k_bipush (74) dX7_logs_58 (by decide) ?_
    refine k_iconst (3) dX7_logs_60 (by decide) ?_
    refine k_aload_n 0 dX7_logs_61 rfl rfl ?_
    refine k_getfield dX7_logs_62 hc_X7 hM.1.1 hM.1.2 0 (by decide) wF_X7_7 rfl ?_
    refine k_bipush (73) dX7_logs_65 (by decide) ?_
    refine k_ialoadV (73) dX7_logs_67 hM.2.1.1 hM.2.1.2 (rfl) (⟨by omega, by decide⟩) (h73) ?_
    refine k_imul dX7_logs_68 ?_
    refine k_iadd dX7_logs_69 ?_
    refine k_istore_n 3 (lv' := [(3, _), (0, _), (1, _), (2, _)]) dX7_logs_70 rfl (by decide) rfl ?_
    refine k_aload_n 0 dX7_logs_71 rfl rfl ?_
    refine k_getfield dX7_logs_72 hc_X7 hM.1.1 hM.1.2 0 (by decide) wF_X7_7 rfl ?_
    refine k_iload_n 3 dX7_logs_75 rfl rfl ?_
    refine k_iload_n 1 dX7_logs_76 rfl rfl ?_
    refine k_iastoreN ((74 + (3 * l9))) dX7_logs_77 hM.2.1.1 hM.2.1.2 ((kg_add rfl (kg_mul rfl rfl))) (⟨by omega, by decide⟩) ?_
    refine k_aload_n 0 dX7_logs_78 rfl rfl ?_
    refine k_getfield dX7_logs_79 hc_X7 hM.1.1 hM.1.2 0 (by decide) wF_X7_7 rfl ?_
    refine k_iload_n 3 dX7_logs_82 rfl rfl ?_
    refine k_iconst (1) dX7_logs_83 (by decide) ?_
    refine k_iadd dX7_logs_84 ?_
    refine k_iload_n 2 dX7_logs_85 rfl rfl ?_
    refine k_iastoreN (((74 + (3 * l9)) + 1)) dX7_logs_86 hM.2.1.1 hM.2.1.2 ((kg_add (kg_add rfl (kg_mul rfl rfl)) rfl)) (⟨by omega, by decide⟩) ?_
    refine k_aload_n 0 dX7_logs_87 rfl rfl ?_
    refine k_getfield dX7_logs_88 hc_X7 hM.1.1 hM.1.2 0 (by decide) wF_X7_7 rfl ?_
    refine k_iload_n 3 dX7_logs_91 rfl rfl ?_
    refine k_iconst (2) dX7_logs_92 (by decide) ?_
    refine k_iadd dX7_logs_93 ?_
    refine k_aload_n 0 dX7_logs_94 rfl rfl ?_
    refine k_getfield dX7_logs_95 hc_X7 hM.1.1 hM.1.2 0 (by decide) wF_X7_7 rfl ?_
    refine k_bipush (9) dX7_logs_98 (by decide) ?_
    refine k_ialoadN (9) dX7_logs_100 hM.2.1.1 hM.2.1.2 (rfl) (⟨by omega, by decide⟩) ?_
    refine k_iastoreN (((74 + (3 * l9)) + 2)) dX7_logs_101 hM.2.1.1 hM.2.1.2 ((kg_add (kg_add rfl (kg_mul rfl rfl)) rfl)) (⟨by omega, by decide⟩) ?_
    refine k_aload_n 0 dX7_logs_102 rfl rfl ?_
    refine k_getfield dX7_logs_103 hc_X7 hM.1.1 hM.1.2 0 (by decide) wF_X7_7 rfl ?_
    refine k_bipush (73) dX7_logs_106 (by decide) ?_
    refine k_dup2 dX7_logs_108 rfl rfl ?_
    refine k_ialoadN (73) dX7_logs_109 hM.2.1.1 hM.2.1.2 (rfl) (⟨by omega, by decide⟩) ?_
    refine k_iconst (1) dX7_logs_110 (by decide) ?_
    refine k_iadd dX7_logs_111 ?_
    refine k_iastoreN (73) dX7_logs_112 hM.2.1.1 hM.2.1.2 (rfl) (⟨by omega, by decide⟩) ?_
    refine k_vret dX7_logs_113 rfl ?_
    exact hQ
  have lp14 : ∀ r9 : Nat, ∀ j : Nat, j + r9 = 177 → Q (.inl none) (kg_lw (kg_log0 σ) 251 k n) τ z → σ 129 73 = 60 → kn_Go X MX7_logs 14 [(3, .int (nI j)), (0, .ref 128), (1, .int k), (2, .int n)] [] (kg_sh σ j) τ z c n9 Q := by
    intro r9
    induction r9 with
    | zero =>
      intro j hj hQ h60
      obtain rfl : j = 177 := by omega
      refine k_iload_n 3 dX7_logs_14 rfl rfl ?_
      refine k_sipush (177) dX7_logs_15 (by decide) ?_
      refine k_icmpge 47 dX7_logs_18 (by decide) (fun h18 => ?_) (fun h18 => ?_)
      · refine k_aload_n 0 dX7_logs_47 rfl rfl ?_
        refine k_getfield dX7_logs_48 hc_X7 hM.1.1 hM.1.2 0 (by decide) wF_X7_7 rfl ?_
        refine k_bipush (73) dX7_logs_51 (by decide) ?_
        refine k_dup2 dX7_logs_53 rfl rfl ?_
        refine k_ialoadV (73) dX7_logs_54 hM.2.1.1 hM.2.1.2 (rfl) (⟨by omega, by decide⟩) (show kg_sh σ 177 129 73 = nI 60 from (kg_sh_lo σ (by decide) 177).trans h60) ?_
        refine k_iconst (1) dX7_logs_55 (by decide) ?_
        refine k_isub dX7_logs_56 ?_
        rw [show nI 60 - 1 = nI 59 by decide]
        refine k_iastoreN (73) dX7_logs_57 hM.2.1.1 hM.2.1.2 (rfl) (⟨by omega, by decide⟩) ?_
        refine k_re [0, 1, 2] (lv' := [(0, _), (1, _), (2, _)]) rfl ?_
        first
          | exact cut58 59 (kg_log0 σ) (by rw [kg_log0]; unfold kn_up; rw [if_pos ⟨rfl, rfl⟩]) (by omega) hQ
          | (obtain ⟨l9, hl9, e9⟩ := hok
             rw [kg_logs, if_neg h9, e9, nI_clamp (by omega)] at hQ
             exact cut58 l9 _ e9 (by have : l9 ≠ 60 := by { intro q; subst q; exact h9 e9 }; omega) hQ)
      · exact absurd (nI_le (Nat.le_refl 177) (by decide)) h18
    | succ r9 ih =>
      intro j hj hQ h60
      refine k_iload_n 3 dX7_logs_14 rfl rfl ?_
      refine k_sipush (177) dX7_logs_15 (by decide) ?_
      refine k_icmpge 47 dX7_logs_18 (by decide) (fun h18 => ?_) (fun h18 => ?_)
      · exact absurd h18 (nI_ge (b := 177) (by omega) (by decide))
      · refine k_aload_n 0 dX7_logs_21 rfl rfl ?_
        refine k_getfield dX7_logs_22 hc_X7 hM.1.1 hM.1.2 0 (by decide) wF_X7_7 rfl ?_
        refine k_bipush (74) dX7_logs_25 (by decide) ?_
        refine k_iload_n 3 dX7_logs_27 rfl rfl ?_
        refine k_iadd dX7_logs_28 ?_
        refine k_aload_n 0 dX7_logs_29 rfl rfl ?_
        refine k_getfield dX7_logs_30 hc_X7 hM.1.1 hM.1.2 0 (by decide) wF_X7_7 rfl ?_
        refine k_bipush (74) dX7_logs_33 (by decide) ?_
        refine k_iload_n 3 dX7_logs_35 rfl rfl ?_
        refine k_iadd dX7_logs_36 ?_
        refine k_iconst (3) dX7_logs_37 (by decide) ?_
        refine k_iadd dX7_logs_38 ?_
        refine k_ialoadN (((74 + j) + 3)) dX7_logs_39 hM.2.1.1 hM.2.1.2 ((kg_add (kg_add rfl rfl) rfl)) (⟨by omega, by decide⟩) ?_
        refine k_iastoreN ((74 + j)) dX7_logs_40 hM.2.1.1 hM.2.1.2 ((kg_add rfl rfl)) (⟨by omega, by decide⟩) ?_
        refine k_iinc (nI (j + 1)) (lv' := [(3, _), (0, _), (1, _), (2, _)]) dX7_logs_41 rfl (kn_inc j) (by decide) rfl ?_
        refine k_goto 14 dX7_logs_44 (by decide) ?_
        exact ih (j + 1) (by omega) hQ h60
  refine k_aload_n 0 dX7_logs_0 rfl rfl ?_
  refine k_getfield dX7_logs_1 hc_X7 hM.1.1 hM.1.2 0 (by decide) wF_X7_7 rfl ?_
  refine k_bipush (73) dX7_logs_4 (by decide) ?_
  refine k_ialoadN (73) dX7_logs_6 hM.2.1.1 hM.2.1.2 (rfl) (⟨by omega, by decide⟩) ?_
  refine k_bipush (60) dX7_logs_7 (by decide) ?_
  refine k_icmpne 58 dX7_logs_9 (by decide) (fun h9 => ?_) (fun h9 => ?_)
  · first
      | exact cut58 59 (kg_log0 σ) (by rw [kg_log0]; unfold kn_up; rw [if_pos ⟨rfl, rfl⟩]) (by omega) hQ
      | (obtain ⟨l9, hl9, e9⟩ := hok
         rw [kg_logs, if_neg h9, e9, nI_clamp (by omega)] at hQ
         exact cut58 l9 _ e9 (by have : l9 ≠ 60 := by { intro q; subst q; exact h9 e9 }; omega) hQ)
  · refine k_iconst (0) dX7_logs_12 (by decide) ?_
    refine k_istore_n 3 (lv' := [(3, _), (0, _), (1, _), (2, _)]) dX7_logs_13 rfl (by decide) rfl ?_
    rw [kg_logs, if_pos h9] at hQ
    exact lp14 177 0 (by omega) hQ h9

set_option maxRecDepth 100000 in
set_option maxHeartbeats 4000000 in
theorem m_X7_senses {X : kn_X} {σ : kn_S} {τ : kn_T} {z : kn_Z} {c n : Nat} {Q : kn_Q} {e : Int32} (hM : kn_isM z) (hok : kg_ok σ) (hQ : Q (.inl none) (kg_sen σ e) τ z) : kn_Ev X MX7_senses [.ref 128, .int e] σ τ z c n Q := by
  refine kn_entry (by decide +kernel) rfl (Nat.le_of_ble_eq_true rfl) ?_
  show kn_Go X MX7_senses 0 [(0, .ref 128), (1, .int e)] [] _ _ _ _ _ _
  have cut65 : ∀ s9 : kn_S, kg_ok s9 → Q (.inl none) (kg_s2 s9) τ z → kn_Go X MX7_senses 65 [(0, .ref 128), (1, .int e)] [] s9 τ z c n Q := by
    intro s9 hok9 hQ
    refine k_aload_n 0 dX7_senses_65 rfl rfl ?_
    refine k_getfield dX7_senses_66 hc_X7 hM.1.1 hM.1.2 0 (by decide) wF_X7_7 rfl ?_
    refine k_bipush (12) dX7_senses_69 (by decide) ?_
    refine k_ialoadN (12) dX7_senses_71 hM.2.1.1 hM.2.1.2 (rfl) (⟨by omega, by decide⟩) ?_
    refine k_ifne 104 dX7_senses_72 (by decide) (fun h72 => ?_) (fun h72 => ?_)
    · refine k_aload_n 0 dX7_senses_104 rfl rfl ?_
      refine k_getfield dX7_senses_105 hc_X7 hM.1.1 hM.1.2 0 (by decide) wF_X7_7 rfl ?_
      refine k_bipush (12) dX7_senses_108 (by decide) ?_
      refine k_ialoadN (12) dX7_senses_110 hM.2.1.1 hM.2.1.2 (rfl) (⟨by omega, by decide⟩) ?_
      refine k_iconst (1) dX7_senses_111 (by decide) ?_
      refine k_icmpne 141 dX7_senses_112 (by decide) (fun h112 => ?_) (fun h112 => ?_)
      · refine k_vret dX7_senses_141 rfl ?_
        dsimp only [kg_s2, kg_s3] at hQ
        rw [if_neg h72, if_neg h112] at hQ
        exact hQ
      · refine k_aload_n 0 dX7_senses_115 rfl rfl ?_
        refine k_getfield dX7_senses_116 hc_X7 hM.1.1 hM.1.2 0 (by decide) wF_X7_7 rfl ?_
        refine k_bipush (14) dX7_senses_119 (by decide) ?_
        refine k_ialoadN (14) dX7_senses_121 hM.2.1.1 hM.2.1.2 (rfl) (⟨by omega, by decide⟩) ?_
        refine k_bipush (50) dX7_senses_122 (by decide) ?_
        refine k_icmplt 141 dX7_senses_124 (by decide) (fun h124 => ?_) (fun h124 => ?_)
        · refine k_vret dX7_senses_141 rfl ?_
          dsimp only [kg_s2, kg_s3] at hQ
          rw [if_neg h72, if_pos h112, if_pos h124] at hQ
          exact hQ
        · refine k_aload_n 0 dX7_senses_127 rfl rfl ?_
          refine k_getfield dX7_senses_128 hc_X7 hM.1.1 hM.1.2 0 (by decide) wF_X7_7 rfl ?_
          refine k_bipush (12) dX7_senses_131 (by decide) ?_
          refine k_iconst (0) dX7_senses_133 (by decide) ?_
          refine k_iastoreN (12) dX7_senses_134 hM.2.1.1 hM.2.1.2 (rfl) (⟨by omega, by decide⟩) ?_
          refine k_aload_n 0 dX7_senses_135 rfl rfl ?_
          refine k_iconst (2) dX7_senses_136 (by decide) ?_
          refine k_iconst (0) dX7_senses_137 (by decide) ?_
          refine k_invV (As := [_, _]) dX7_senses_138 mm_X7_logs wL_X7_63 ⟨by decide, by decide⟩ hM.1.1 hM.1.2 rfl rfl (Nat.le_of_ble_eq_true rfl) (Nat.zero_le _) (Nat.zero_le _) (m_X7_logs hM (kg_ok_of hok9 (kn_upk (by omega))) ⟨rfl, ?_⟩)
          refine k_vret dX7_senses_141 rfl ?_
          dsimp only [kg_s2, kg_s3] at hQ
          rw [if_neg h72, if_pos h112, if_neg h124] at hQ
          exact hQ
    · refine k_aload_n 0 dX7_senses_75 rfl rfl ?_
      refine k_getfield dX7_senses_76 hc_X7 hM.1.1 hM.1.2 0 (by decide) wF_X7_7 rfl ?_
      refine k_bipush (13) dX7_senses_79 (by decide) ?_
      refine k_ialoadN (13) dX7_senses_81 hM.2.1.1 hM.2.1.2 (rfl) (⟨by omega, by decide⟩) ?_
      refine k_bipush (20) dX7_senses_82 (by decide) ?_
      refine k_icmplt 104 dX7_senses_84 (by decide) (fun h84 => ?_) (fun h84 => ?_)
      · refine k_aload_n 0 dX7_senses_104 rfl rfl ?_
        refine k_getfield dX7_senses_105 hc_X7 hM.1.1 hM.1.2 0 (by decide) wF_X7_7 rfl ?_
        refine k_bipush (12) dX7_senses_108 (by decide) ?_
        refine k_ialoadN (12) dX7_senses_110 hM.2.1.1 hM.2.1.2 (rfl) (⟨by omega, by decide⟩) ?_
        refine k_iconst (1) dX7_senses_111 (by decide) ?_
        refine k_icmpne 141 dX7_senses_112 (by decide) (fun h112 => ?_) (fun h112 => ?_)
        · refine k_vret dX7_senses_141 rfl ?_
          dsimp only [kg_s2, kg_s3] at hQ
          rw [if_pos h72, if_pos h84, if_neg h112] at hQ
          exact hQ
        · refine k_aload_n 0 dX7_senses_115 rfl rfl ?_
          refine k_getfield dX7_senses_116 hc_X7 hM.1.1 hM.1.2 0 (by decide) wF_X7_7 rfl ?_
          refine k_bipush (14) dX7_senses_119 (by decide) ?_
          refine k_ialoadN (14) dX7_senses_121 hM.2.1.1 hM.2.1.2 (rfl) (⟨by omega, by decide⟩) ?_
          refine k_bipush (50) dX7_senses_122 (by decide) ?_
          refine k_icmplt 141 dX7_senses_124 (by decide) (fun h124 => ?_) (fun h124 => ?_)
          · refine k_vret dX7_senses_141 rfl ?_
            dsimp only [kg_s2, kg_s3] at hQ
            rw [if_pos h72, if_pos h84, if_pos h112, if_pos h124] at hQ
            exact hQ
          · refine k_aload_n 0 dX7_senses_127 rfl rfl ?_
            refine k_getfield dX7_senses_128 hc_X7 hM.1.1 hM.1.2 0 (by decide) wF_X7_7 rfl ?_
            refine k_bipush (12) dX7_senses_131 (by decide) ?_
            refine k_iconst (0) dX7_senses_133 (by decide) ?_
            refine k_iastoreN (12) dX7_senses_134 hM.2.1.1 hM.2.1.2 (rfl) (⟨by omega, by decide⟩) ?_
            refine k_aload_n 0 dX7_senses_135 rfl rfl ?_
            refine k_iconst (2) dX7_senses_136 (by decide) ?_
            refine k_iconst (0) dX7_senses_137 (by decide) ?_
            refine k_invV (As := [_, _]) dX7_senses_138 mm_X7_logs wL_X7_63 ⟨by decide, by decide⟩ hM.1.1 hM.1.2 rfl rfl (Nat.le_of_ble_eq_true rfl) (Nat.zero_le _) (Nat.zero_le _) (m_X7_logs hM (kg_ok_of hok9 (kn_upk (by omega))) ⟨rfl, ?_⟩)
            refine k_vret dX7_senses_141 rfl ?_
            dsimp only [kg_s2, kg_s3] at hQ
            rw [if_pos h72, if_pos h84, if_pos h112, if_neg h124] at hQ
            exact hQ
      · refine k_aload_n 0 dX7_senses_87 rfl rfl ?_
        refine k_getfield dX7_senses_88 hc_X7 hM.1.1 hM.1.2 0 (by decide) wF_X7_7 rfl ?_
        refine k_bipush (12) dX7_senses_91 (by decide) ?_
        refine k_iconst (1) dX7_senses_93 (by decide) ?_
        refine k_iastoreN (12) dX7_senses_94 hM.2.1.1 hM.2.1.2 (rfl) (⟨by omega, by decide⟩) ?_
        refine k_aload_n 0 dX7_senses_95 rfl rfl ?_
        refine k_iconst (1) dX7_senses_96 (by decide) ?_
        refine k_iconst (0) dX7_senses_97 (by decide) ?_
        refine k_invV (As := [_, _]) dX7_senses_98 mm_X7_logs wL_X7_63 ⟨by decide, by decide⟩ hM.1.1 hM.1.2 rfl rfl (Nat.le_of_ble_eq_true rfl) (Nat.zero_le _) (Nat.zero_le _) (m_X7_logs hM (kg_ok_of hok9 (kn_upk (by omega))) ⟨rfl, ?_⟩)
        refine k_goto 141 dX7_senses_101 (by decide) ?_
        refine k_vret dX7_senses_141 rfl ?_
        dsimp only [kg_s2, kg_s3] at hQ
        rw [if_pos h72, if_neg h84] at hQ
        exact hQ
  refine k_iload_n 1 dX7_senses_0 rfl rfl ?_
  refine k_aload_n 0 dX7_senses_1 rfl rfl ?_
  refine k_getfield dX7_senses_2 hc_X7 hM.1.1 hM.1.2 0 (by decide) wF_X7_7 rfl ?_
  refine k_bipush (6) dX7_senses_5 (by decide) ?_
  refine k_ialoadN (6) dX7_senses_7 hM.2.1.1 hM.2.1.2 (rfl) (⟨by omega, by decide⟩) ?_
  refine k_icmpge 15 dX7_senses_8 (by decide) (fun h8 => ?_) (fun h8 => ?_)
  · refine k_iconst (0) dX7_senses_15 (by decide) ?_
    refine k_istore_n 2 (lv' := [(2, _), (0, _), (1, _)]) dX7_senses_16 rfl (by decide) rfl ?_
    refine k_aload_n 0 dX7_senses_17 rfl rfl ?_
    refine k_getfield dX7_senses_18 hc_X7 hM.1.1 hM.1.2 0 (by decide) wF_X7_7 rfl ?_
    refine k_bipush (13) dX7_senses_21 (by decide) ?_
    refine k_iload_n 2 dX7_senses_23 rfl rfl ?_
    refine k_ifeq 39 dX7_senses_24 (by decide) (fun h24 => ?_) (fun h24 => ?_)
    · refine k_iconst (0) dX7_senses_39 (by decide) ?_
      refine k_iastoreN (13) dX7_senses_40 hM.2.1.1 hM.2.1.2 (rfl) (⟨by omega, by decide⟩) ?_
      refine k_aload_n 0 dX7_senses_41 rfl rfl ?_
      refine k_getfield dX7_senses_42 hc_X7 hM.1.1 hM.1.2 0 (by decide) wF_X7_7 rfl ?_
      refine k_bipush (14) dX7_senses_45 (by decide) ?_
      refine k_iload_n 2 dX7_senses_47 rfl rfl ?_
      refine k_ifeq 55 dX7_senses_48 (by decide) (fun h48 => ?_) (fun h48 => ?_)
      · refine k_aload_n 0 dX7_senses_55 rfl rfl ?_
        refine k_getfield dX7_senses_56 hc_X7 hM.1.1 hM.1.2 0 (by decide) wF_X7_7 rfl ?_
        refine k_bipush (14) dX7_senses_59 (by decide) ?_
        refine k_ialoadN (14) dX7_senses_61 hM.2.1.1 hM.2.1.2 (rfl) (⟨by omega, by decide⟩) ?_
        refine k_iconst (1) dX7_senses_62 (by decide) ?_
        refine k_iadd dX7_senses_63 ?_
        refine k_iastoreN (14) dX7_senses_64 hM.2.1.1 hM.2.1.2 (rfl) (⟨by omega, by decide⟩) ?_
        refine k_re [0, 1] (lv' := [(0, _), (1, _)]) rfl ?_
        refine cut65 _ (kg_ok_of (kg_ok_of hok (kn_upk (by omega))) (kn_upk (by omega))) ?_
        rw [kg_sen, kg_s1, if_pos h8] at hQ
        exact hQ
      · exact absurd rfl h48
    · exact absurd rfl h24
  · refine k_iconst (1) dX7_senses_11 (by decide) ?_
    refine k_goto 16 dX7_senses_12 (by decide) ?_
    refine k_istore_n 2 (lv' := [(2, _), (0, _), (1, _)]) dX7_senses_16 rfl (by decide) rfl ?_
    refine k_aload_n 0 dX7_senses_17 rfl rfl ?_
    refine k_getfield dX7_senses_18 hc_X7 hM.1.1 hM.1.2 0 (by decide) wF_X7_7 rfl ?_
    refine k_bipush (13) dX7_senses_21 (by decide) ?_
    refine k_iload_n 2 dX7_senses_23 rfl rfl ?_
    refine k_ifeq 39 dX7_senses_24 (by decide) (fun h24 => ?_) (fun h24 => ?_)
    · exact absurd h24 (by decide)
    · refine k_aload_n 0 dX7_senses_27 rfl rfl ?_
      refine k_getfield dX7_senses_28 hc_X7 hM.1.1 hM.1.2 0 (by decide) wF_X7_7 rfl ?_
      refine k_bipush (13) dX7_senses_31 (by decide) ?_
      refine k_ialoadN (13) dX7_senses_33 hM.2.1.1 hM.2.1.2 (rfl) (⟨by omega, by decide⟩) ?_
      refine k_iconst (1) dX7_senses_34 (by decide) ?_
      refine k_iadd dX7_senses_35 ?_
      refine k_goto 40 dX7_senses_36 (by decide) ?_
      refine k_iastoreN (13) dX7_senses_40 hM.2.1.1 hM.2.1.2 (rfl) (⟨by omega, by decide⟩) ?_
      refine k_aload_n 0 dX7_senses_41 rfl rfl ?_
      refine k_getfield dX7_senses_42 hc_X7 hM.1.1 hM.1.2 0 (by decide) wF_X7_7 rfl ?_
      refine k_bipush (14) dX7_senses_45 (by decide) ?_
      refine k_iload_n 2 dX7_senses_47 rfl rfl ?_
      refine k_ifeq 55 dX7_senses_48 (by decide) (fun h48 => ?_) (fun h48 => ?_)
      · exact absurd h48 (by decide)
      · refine k_iconst (0) dX7_senses_51 (by decide) ?_
        refine k_goto 64 dX7_senses_52 (by decide) ?_
        refine k_iastoreN (14) dX7_senses_64 hM.2.1.1 hM.2.1.2 (rfl) (⟨by omega, by decide⟩) ?_
        refine k_re [0, 1] (lv' := [(0, _), (1, _)]) rfl ?_
        refine cut65 _ (kg_ok_of (kg_ok_of hok (kn_upk (by omega))) (kn_upk (by omega))) ?_
        rw [kg_sen, kg_s1, if_neg h8] at hQ
        exact hQ

set_option maxRecDepth 100000 in
set_option maxHeartbeats 4000000 in
theorem m_X7_knocks {X : kn_X} {σ : kn_S} {τ : kn_T} {z : kn_Z} {c n : Nat} {Q : kn_Q} {cc cl : Nat} {e t : Int32} (hM : kn_isM z) (hok : kg_ok σ) (hcc : cc < 8) (hcl : cl < 24) (ht : ¬ t = 0) (hQ : Q (.inl none) (kg_kn σ cc cl e t) τ z) : kn_Ev X MX7_knocks [.ref 128, .int (nI cc), .int (nI cl), .int e, .int t] σ τ z c n Q := by
  refine kn_entry (by decide +kernel) rfl (Nat.le_of_ble_eq_true rfl) ?_
  show kn_Go X MX7_knocks 0 [(0, .ref 128), (1, .int (nI cc)), (2, .int (nI cl)), (3, .int e), (4, .int t)] [] _ _ _ _ _ _
  refine k_aload_n 0 dX7_knocks_0 rfl rfl ?_
  refine k_getfield dX7_knocks_1 hc_X7 hM.1.1 hM.1.2 0 (by decide) wF_X7_7 rfl ?_
  refine k_iconst (1) dX7_knocks_4 (by decide) ?_
  refine k_ialoadN (1) dX7_knocks_5 hM.2.1.1 hM.2.1.2 (rfl) (⟨by omega, by decide⟩) ?_
  refine k_iconst (3) dX7_knocks_6 (by decide) ?_
  refine k_aload_n 0 dX7_knocks_7 rfl rfl ?_
  refine k_getfield dX7_knocks_8 hc_X7 hM.1.1 hM.1.2 0 (by decide) wF_X7_7 rfl ?_
  refine k_iconst (1) dX7_knocks_11 (by decide) ?_
  refine k_ialoadN (1) dX7_knocks_12 hM.2.1.1 hM.2.1.2 (rfl) (⟨by omega, by decide⟩) ?_
  refine k_imul dX7_knocks_13 ?_
  refine k_aload_n 0 dX7_knocks_14 rfl rfl ?_
  refine k_getfield dX7_knocks_15 hc_X7 hM.1.1 hM.1.2 0 (by decide) wF_X7_7 rfl ?_
  refine k_iconst (1) dX7_knocks_18 (by decide) ?_
  refine k_ialoadN (1) dX7_knocks_19 hM.2.1.1 hM.2.1.2 (rfl) (⟨by omega, by decide⟩) ?_
  refine k_iload_n 3 dX7_knocks_20 rfl rfl ?_
  refine k_iload dX7_knocks_21 rfl ?_
  refine k_isub dX7_knocks_23 ?_
  refine k_imul dX7_knocks_24 ?_
  refine k_iload dX7_knocks_25 rfl ?_
  refine k_idiv dX7_knocks_27 (ht) ?_
  refine k_invS (As := [_, _]) dX7_knocks_28 mm_X7_lesser wL_X7_53 ⟨by decide, by decide⟩ rfl rfl (Nat.le_of_ble_eq_true rfl) (Nat.zero_le _) (Nat.zero_le _) (m_X7_lesser ⟨rfl, ?_⟩)
  refine k_iadd dX7_knocks_31 ?_
  refine k_istore (lv' := [(5, _), (0, _), (1, _), (2, _), (3, _), (4, _)]) dX7_knocks_32 (by decide) rfl ?_
  refine k_aload_n 0 dX7_knocks_34 rfl rfl ?_
  refine k_getfield dX7_knocks_35 hc_X7 hM.1.1 hM.1.2 0 (by decide) wF_X7_7 rfl ?_
  refine k_iconst (3) dX7_knocks_38 (by decide) ?_
  refine k_ialoadN (3) dX7_knocks_39 hM.2.1.1 hM.2.1.2 (rfl) (⟨by omega, by decide⟩) ?_
  refine k_aload_n 0 dX7_knocks_40 rfl rfl ?_
  refine k_getfield dX7_knocks_41 hc_X7 hM.1.1 hM.1.2 0 (by decide) wF_X7_7 rfl ?_
  refine k_bipush (49) dX7_knocks_44 (by decide) ?_
  refine k_iload_n 2 dX7_knocks_46 rfl rfl ?_
  refine k_iadd dX7_knocks_47 ?_
  refine k_ialoadN ((49 + cl)) dX7_knocks_48 hM.2.1.1 hM.2.1.2 ((kg_add rfl rfl)) (⟨by omega, by decide⟩) ?_
  refine k_isub dX7_knocks_49 ?_
  refine k_istore (lv' := [(6, _), (5, _), (0, _), (1, _), (2, _), (3, _), (4, _)]) dX7_knocks_50 (by decide) rfl ?_
  refine k_aload_n 0 dX7_knocks_52 rfl rfl ?_
  refine k_getfield dX7_knocks_53 hc_X7 hM.1.1 hM.1.2 0 (by decide) wF_X7_7 rfl ?_
  refine k_bipush (17) dX7_knocks_56 (by decide) ?_
  refine k_iload_n 1 dX7_knocks_58 rfl rfl ?_
  refine k_iadd dX7_knocks_59 ?_
  refine k_ialoadN ((17 + cc)) dX7_knocks_60 hM.2.1.1 hM.2.1.2 ((kg_add rfl rfl)) (⟨by omega, by decide⟩) ?_
  refine k_iload dX7_knocks_61 rfl ?_
  refine k_iadd dX7_knocks_63 ?_
  refine k_iload dX7_knocks_64 rfl ?_
  refine k_invS (As := [_, _]) dX7_knocks_66 mm_X7_lesser wL_X7_53 ⟨by decide, by decide⟩ rfl rfl (Nat.le_of_ble_eq_true rfl) (Nat.zero_le _) (Nat.zero_le _) (m_X7_lesser ⟨rfl, ?_⟩)
  refine k_istore (lv' := [(7, _), (6, _), (5, _), (0, _), (1, _), (2, _), (3, _), (4, _)]) dX7_knocks_69 (by decide) rfl ?_
  refine k_aload_n 0 dX7_knocks_71 rfl rfl ?_
  refine k_getfield dX7_knocks_72 hc_X7 hM.1.1 hM.1.2 0 (by decide) wF_X7_7 rfl ?_
  refine k_bipush (17) dX7_knocks_75 (by decide) ?_
  refine k_iload_n 1 dX7_knocks_77 rfl rfl ?_
  refine k_iadd dX7_knocks_78 ?_
  refine k_iload dX7_knocks_79 rfl ?_
  refine k_aload_n 0 dX7_knocks_81 rfl rfl ?_
  refine k_getfield dX7_knocks_82 hc_X7 hM.1.1 hM.1.2 0 (by decide) wF_X7_7 rfl ?_
  refine k_bipush (17) dX7_knocks_85 (by decide) ?_
  refine k_iload_n 1 dX7_knocks_87 rfl rfl ?_
  refine k_iadd dX7_knocks_88 ?_
  refine k_ialoadN ((17 + cc)) dX7_knocks_89 hM.2.1.1 hM.2.1.2 ((kg_add rfl rfl)) (⟨by omega, by decide⟩) ?_
  refine k_icmple 98 dX7_knocks_90 (by decide) (fun h90 => ?_) (fun h90 => ?_)
  · refine k_aload_n 0 dX7_knocks_98 rfl rfl ?_
    refine k_getfield dX7_knocks_99 hc_X7 hM.1.1 hM.1.2 0 (by decide) wF_X7_7 rfl ?_
    refine k_bipush (17) dX7_knocks_102 (by decide) ?_
    refine k_iload_n 1 dX7_knocks_104 rfl rfl ?_
    refine k_iadd dX7_knocks_105 ?_
    refine k_ialoadN ((17 + cc)) dX7_knocks_106 hM.2.1.1 hM.2.1.2 ((kg_add rfl rfl)) (⟨by omega, by decide⟩) ?_
    refine k_iastoreN ((17 + cc)) dX7_knocks_107 hM.2.1.1 hM.2.1.2 ((kg_add rfl rfl)) (⟨by omega, by decide⟩) ?_
    refine k_aload_n 0 dX7_knocks_108 rfl rfl ?_
    refine k_getfield dX7_knocks_109 hc_X7 hM.1.1 hM.1.2 0 (by decide) wF_X7_7 rfl ?_
    refine k_bipush (33) dX7_knocks_112 (by decide) ?_
    refine k_iload_n 1 dX7_knocks_114 rfl rfl ?_
    refine k_iadd dX7_knocks_115 ?_
    refine k_iconst (0) dX7_knocks_116 (by decide) ?_
    refine k_iastoreN ((33 + cc)) dX7_knocks_117 hM.2.1.1 hM.2.1.2 ((kg_add rfl rfl)) (⟨by omega, by decide⟩) ?_
    refine k_aload_n 0 dX7_knocks_118 rfl rfl ?_
    refine k_getfield dX7_knocks_119 hc_X7 hM.1.1 hM.1.2 0 (by decide) wF_X7_7 rfl ?_
    refine k_bipush (41) dX7_knocks_122 (by decide) ?_
    refine k_iload_n 1 dX7_knocks_124 rfl rfl ?_
    refine k_iadd dX7_knocks_125 ?_
    refine k_dup2 dX7_knocks_126 rfl rfl ?_
    refine k_ialoadN ((41 + cc)) dX7_knocks_127 hM.2.1.1 hM.2.1.2 ((kg_add rfl rfl)) (⟨by omega, by decide⟩) ?_
    refine k_iconst (1) dX7_knocks_128 (by decide) ?_
    refine k_iadd dX7_knocks_129 ?_
    refine k_iastoreN ((41 + cc)) dX7_knocks_130 hM.2.1.1 hM.2.1.2 ((kg_add rfl rfl)) (⟨by omega, by decide⟩) ?_
    refine k_aload_n 0 dX7_knocks_131 rfl rfl ?_
    refine k_iconst (0) dX7_knocks_132 (by decide) ?_
    refine k_iload_n 1 dX7_knocks_133 rfl rfl ?_
    refine k_invV (As := [_, _]) dX7_knocks_134 mm_X7_logs wL_X7_63 ⟨by decide, by decide⟩ hM.1.1 hM.1.2 rfl rfl (Nat.le_of_ble_eq_true rfl) (Nat.zero_le _) (Nat.zero_le _) (m_X7_logs hM (kg_ok_of hok (by rw [kn_upk (by omega), kn_upk (by omega), kn_upk (by omega)])) ⟨rfl, ?_⟩)
    refine k_vret dX7_knocks_137 rfl ?_
    dsimp only [kg_kn] at hQ
    rw [if_pos h90] at hQ
    exact hQ
  · refine k_iload dX7_knocks_93 rfl ?_
    refine k_goto 107 dX7_knocks_95 (by decide) ?_
    refine k_iastoreN ((17 + cc)) dX7_knocks_107 hM.2.1.1 hM.2.1.2 ((kg_add rfl rfl)) (⟨by omega, by decide⟩) ?_
    refine k_aload_n 0 dX7_knocks_108 rfl rfl ?_
    refine k_getfield dX7_knocks_109 hc_X7 hM.1.1 hM.1.2 0 (by decide) wF_X7_7 rfl ?_
    refine k_bipush (33) dX7_knocks_112 (by decide) ?_
    refine k_iload_n 1 dX7_knocks_114 rfl rfl ?_
    refine k_iadd dX7_knocks_115 ?_
    refine k_iconst (0) dX7_knocks_116 (by decide) ?_
    refine k_iastoreN ((33 + cc)) dX7_knocks_117 hM.2.1.1 hM.2.1.2 ((kg_add rfl rfl)) (⟨by omega, by decide⟩) ?_
    refine k_aload_n 0 dX7_knocks_118 rfl rfl ?_
    refine k_getfield dX7_knocks_119 hc_X7 hM.1.1 hM.1.2 0 (by decide) wF_X7_7 rfl ?_
    refine k_bipush (41) dX7_knocks_122 (by decide) ?_
    refine k_iload_n 1 dX7_knocks_124 rfl rfl ?_
    refine k_iadd dX7_knocks_125 ?_
    refine k_dup2 dX7_knocks_126 rfl rfl ?_
    refine k_ialoadN ((41 + cc)) dX7_knocks_127 hM.2.1.1 hM.2.1.2 ((kg_add rfl rfl)) (⟨by omega, by decide⟩) ?_
    refine k_iconst (1) dX7_knocks_128 (by decide) ?_
    refine k_iadd dX7_knocks_129 ?_
    refine k_iastoreN ((41 + cc)) dX7_knocks_130 hM.2.1.1 hM.2.1.2 ((kg_add rfl rfl)) (⟨by omega, by decide⟩) ?_
    refine k_aload_n 0 dX7_knocks_131 rfl rfl ?_
    refine k_iconst (0) dX7_knocks_132 (by decide) ?_
    refine k_iload_n 1 dX7_knocks_133 rfl rfl ?_
    refine k_invV (As := [_, _]) dX7_knocks_134 mm_X7_logs wL_X7_63 ⟨by decide, by decide⟩ hM.1.1 hM.1.2 rfl rfl (Nat.le_of_ble_eq_true rfl) (Nat.zero_le _) (Nat.zero_le _) (m_X7_logs hM (kg_ok_of hok (by rw [kn_upk (by omega), kn_upk (by omega), kn_upk (by omega)])) ⟨rfl, ?_⟩)
    refine k_vret dX7_knocks_137 rfl ?_
    dsimp only [kg_kn] at hQ
    rw [if_neg h90] at hQ
    exact hQ

set_option maxRecDepth 100000 in
set_option maxHeartbeats 4000000 in
theorem m_X7_rests {X : kn_X} {σ : kn_S} {τ : kn_T} {z : kn_Z} {c n : Nat} {Q : kn_Q} {cc : Nat} {e : Int32} (hM : kn_isM z) (hcc : cc < 8) (hQ : Q (.inl none) (kg_re σ cc e) τ z) : kn_Ev X MX7_rests [.ref 128, .int (nI cc), .int e] σ τ z c n Q := by
  refine kn_entry (by decide +kernel) rfl (Nat.le_of_ble_eq_true rfl) ?_
  show kn_Go X MX7_rests 0 [(0, .ref 128), (1, .int (nI cc)), (2, .int e)] [] _ _ _ _ _ _
  refine k_aload_n 0 dX7_rests_0 rfl rfl ?_
  refine k_getfield dX7_rests_1 hc_X7 hM.1.1 hM.1.2 0 (by decide) wF_X7_7 rfl ?_
  refine k_bipush (25) dX7_rests_4 (by decide) ?_
  refine k_iload_n 1 dX7_rests_6 rfl rfl ?_
  refine k_iadd dX7_rests_7 ?_
  refine k_dup2 dX7_rests_8 rfl rfl ?_
  refine k_ialoadN ((25 + cc)) dX7_rests_9 hM.2.1.1 hM.2.1.2 ((kg_add rfl rfl)) (⟨by omega, by decide⟩) ?_
  refine k_sipush (256) dX7_rests_10 (by decide) ?_
  refine k_iload_n 2 dX7_rests_13 rfl rfl ?_
  refine k_imul dX7_rests_14 ?_
  refine k_aload_n 0 dX7_rests_15 rfl rfl ?_
  refine k_getfield dX7_rests_16 hc_X7 hM.1.1 hM.1.2 0 (by decide) wF_X7_7 rfl ?_
  refine k_bipush (25) dX7_rests_19 (by decide) ?_
  refine k_iload_n 1 dX7_rests_21 rfl rfl ?_
  refine k_iadd dX7_rests_22 ?_
  refine k_ialoadN ((25 + cc)) dX7_rests_23 hM.2.1.1 hM.2.1.2 ((kg_add rfl rfl)) (⟨by omega, by decide⟩) ?_
  refine k_isub dX7_rests_24 ?_
  refine k_bipush (16) dX7_rests_25 (by decide) ?_
  refine k_invS (As := [_, _]) dX7_rests_27 mm_X7_floor wL_X7_67 ⟨by decide, by decide⟩ rfl rfl (Nat.le_of_ble_eq_true rfl) (Nat.zero_le _) (Nat.zero_le _) (m_X7_floor (by decide) ⟨rfl, ?_⟩)
  refine k_iadd dX7_rests_30 ?_
  refine k_iastoreN ((25 + cc)) dX7_rests_31 hM.2.1.1 hM.2.1.2 ((kg_add rfl rfl)) (⟨by omega, by decide⟩) ?_
  refine k_aload_n 0 dX7_rests_32 rfl rfl ?_
  refine k_getfield dX7_rests_33 hc_X7 hM.1.1 hM.1.2 0 (by decide) wF_X7_7 rfl ?_
  refine k_bipush (33) dX7_rests_36 (by decide) ?_
  refine k_iload_n 1 dX7_rests_38 rfl rfl ?_
  refine k_iadd dX7_rests_39 ?_
  refine k_dup2 dX7_rests_40 rfl rfl ?_
  refine k_ialoadN ((33 + cc)) dX7_rests_41 hM.2.1.1 hM.2.1.2 ((kg_add rfl rfl)) (⟨by omega, by decide⟩) ?_
  refine k_iconst (1) dX7_rests_42 (by decide) ?_
  refine k_iadd dX7_rests_43 ?_
  refine k_iastoreN ((33 + cc)) dX7_rests_44 hM.2.1.1 hM.2.1.2 ((kg_add rfl rfl)) (⟨by omega, by decide⟩) ?_
  refine k_aload_n 0 dX7_rests_45 rfl rfl ?_
  refine k_getfield dX7_rests_46 hc_X7 hM.1.1 hM.1.2 0 (by decide) wF_X7_7 rfl ?_
  refine k_bipush (33) dX7_rests_49 (by decide) ?_
  refine k_iload_n 1 dX7_rests_51 rfl rfl ?_
  refine k_iadd dX7_rests_52 ?_
  refine k_ialoadN ((33 + cc)) dX7_rests_53 hM.2.1.1 hM.2.1.2 ((kg_add rfl rfl)) (⟨by omega, by decide⟩) ?_
  refine k_aload_n 0 dX7_rests_54 rfl rfl ?_
  refine k_getfield dX7_rests_55 hc_X7 hM.1.1 hM.1.2 0 (by decide) wF_X7_7 rfl ?_
  refine k_iconst (2) dX7_rests_58 (by decide) ?_
  refine k_ialoadN (2) dX7_rests_59 hM.2.1.1 hM.2.1.2 (rfl) (⟨by omega, by decide⟩) ?_
  refine k_icmplt 102 dX7_rests_60 (by decide) (fun h60 => ?_) (fun h60 => ?_)
  · refine k_vret dX7_rests_102 rfl ?_
    dsimp only [kg_re] at hQ
    rw [if_pos h60] at hQ
    exact hQ
  · refine k_aload_n 0 dX7_rests_63 rfl rfl ?_
    refine k_getfield dX7_rests_64 hc_X7 hM.1.1 hM.1.2 0 (by decide) wF_X7_7 rfl ?_
    refine k_bipush (33) dX7_rests_67 (by decide) ?_
    refine k_iload_n 1 dX7_rests_69 rfl rfl ?_
    refine k_iadd dX7_rests_70 ?_
    refine k_iconst (0) dX7_rests_71 (by decide) ?_
    refine k_iastoreN ((33 + cc)) dX7_rests_72 hM.2.1.1 hM.2.1.2 ((kg_add rfl rfl)) (⟨by omega, by decide⟩) ?_
    refine k_aload_n 0 dX7_rests_73 rfl rfl ?_
    refine k_getfield dX7_rests_74 hc_X7 hM.1.1 hM.1.2 0 (by decide) wF_X7_7 rfl ?_
    refine k_bipush (17) dX7_rests_77 (by decide) ?_
    refine k_iload_n 1 dX7_rests_79 rfl rfl ?_
    refine k_iadd dX7_rests_80 ?_
    refine k_dup2 dX7_rests_81 rfl rfl ?_
    refine k_ialoadN ((17 + cc)) dX7_rests_82 hM.2.1.1 hM.2.1.2 ((kg_add rfl rfl)) (⟨by omega, by decide⟩) ?_
    refine k_aload_n 0 dX7_rests_83 rfl rfl ?_
    refine k_getfield dX7_rests_84 hc_X7 hM.1.1 hM.1.2 0 (by decide) wF_X7_7 rfl ?_
    refine k_bipush (17) dX7_rests_87 (by decide) ?_
    refine k_iload_n 1 dX7_rests_89 rfl rfl ?_
    refine k_iadd dX7_rests_90 ?_
    refine k_ialoadN ((17 + cc)) dX7_rests_91 hM.2.1.1 hM.2.1.2 ((kg_add rfl rfl)) (⟨by omega, by decide⟩) ?_
    refine k_ifle 99 dX7_rests_92 (by decide) (fun h92 => ?_) (fun h92 => ?_)
    · refine k_iconst (0) dX7_rests_99 (by decide) ?_
      refine k_isub dX7_rests_100 ?_
      refine k_iastoreN ((17 + cc)) dX7_rests_101 hM.2.1.1 hM.2.1.2 ((kg_add rfl rfl)) (⟨by omega, by decide⟩) ?_
      refine k_vret dX7_rests_102 rfl ?_
      dsimp only [kg_re] at hQ
      rw [if_neg h60, if_pos h92] at hQ
      exact hQ
    · refine k_iconst (1) dX7_rests_95 (by decide) ?_
      refine k_goto 100 dX7_rests_96 (by decide) ?_
      refine k_isub dX7_rests_100 ?_
      refine k_iastoreN ((17 + cc)) dX7_rests_101 hM.2.1.1 hM.2.1.2 ((kg_add rfl rfl)) (⟨by omega, by decide⟩) ?_
      refine k_vret dX7_rests_102 rfl ?_
      dsimp only [kg_re] at hQ
      rw [if_neg h60, if_neg h92] at hQ
      exact hQ
