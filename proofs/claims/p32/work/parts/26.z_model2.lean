-- the model: a row told and changed
theorem kn_upk {s : kn_S} {b k j : Nat} {v : Int32} (h : j ≠ k) : kn_up s b k v b j = s b j := by
  unfold kn_up
  rw [if_neg (fun q => h q.2)]
theorem kn_sw6 (x : Int32) : x = 0 ∨ x = 1 ∨ x = 2 ∨ x = 3 ∨ x = 4 ∨ x = 5 ∨ x = 6 ∨ ((¬ x = 0 ∧ ¬ x = 1 ∧ ¬ x = 2 ∧ ¬ x = 3 ∧ ¬ x = 4 ∧ ¬ x = 5 ∧ ¬ x = 6) ∧ (x.toInt < 0 ∨ 6 < x.toInt)) := by
  by_cases h0 : x = 0; · exact Or.inl h0
  by_cases h1 : x = 1; · exact Or.inr (Or.inl h1)
  by_cases h2 : x = 2; · exact Or.inr (Or.inr (Or.inl h2))
  by_cases h3 : x = 3; · exact Or.inr (Or.inr (Or.inr (Or.inl h3)))
  by_cases h4 : x = 4; · exact Or.inr (Or.inr (Or.inr (Or.inr (Or.inl h4))))
  by_cases h5 : x = 5; · exact Or.inr (Or.inr (Or.inr (Or.inr (Or.inr (Or.inl h5)))))
  by_cases h6 : x = 6; · exact Or.inr (Or.inr (Or.inr (Or.inr (Or.inr (Or.inr (Or.inl h6))))))
  refine Or.inr (Or.inr (Or.inr (Or.inr (Or.inr (Or.inr (Or.inr ⟨⟨h0, h1, h2, h3, h4, h5, h6⟩, ?_⟩))))))
  have e0 : ¬ x.toInt = 0 := fun h => h0 (Int32.toInt_inj.mp h)
  have e1 : ¬ x.toInt = 1 := fun h => h1 (Int32.toInt_inj.mp h)
  have e2 : ¬ x.toInt = 2 := fun h => h2 (Int32.toInt_inj.mp h)
  have e3 : ¬ x.toInt = 3 := fun h => h3 (Int32.toInt_inj.mp h)
  have e4 : ¬ x.toInt = 4 := fun h => h4 (Int32.toInt_inj.mp h)
  have e5 : ¬ x.toInt = 5 := fun h => h5 (Int32.toInt_inj.mp h)
  have e6 : ¬ x.toInt = 6 := fun h => h6 (Int32.toInt_inj.mp h)
  omega
def kg_isSet (w v : Int32) : Int32 := if w = 0 then kf_within v 16 128 else if w = 1 then kf_within v 1 50 else if w = 2 then kf_within v 1 200 else if w = 3 then kf_within v 20 200 else if w = 4 then kf_within v 0 200 else if w = 5 then kf_within v 1 500 else if w = 6 then kf_within v 0 1000 else if w = 7 then (if kf_within v 0 100 = 0 then 0 else 1) else 0
theorem kg_isSet_k {w v : Int32} (h : ¬ kg_isSet w v = 0) : ∃ k, w = nI k ∧ k < 8 := by
  rcases kn_sw6 w with q | q | q | q | q | q | q | q
  · exact ⟨0, q, by decide⟩
  · exact ⟨1, q, by decide⟩
  · exact ⟨2, q, by decide⟩
  · exact ⟨3, q, by decide⟩
  · exact ⟨4, q, by decide⟩
  · exact ⟨5, q, by decide⟩
  · exact ⟨6, q, by decide⟩
  · by_cases h7 : w = 7
    · exact ⟨7, h7, by decide⟩
    · refine absurd ?_ h
      rw [kg_isSet, if_neg q.1.1, if_neg q.1.2.1, if_neg q.1.2.2.1, if_neg q.1.2.2.2.1, if_neg q.1.2.2.2.2.1, if_neg q.1.2.2.2.2.2.1, if_neg q.1.2.2.2.2.2.2, if_neg h7]
theorem kf_isCell_nI {x y : Int32} (h : ¬ kf_isCell x y = 0) : ∃ r k, r ≤ 5 ∧ k ≤ 3 ∧ x = nI r ∧ y = nI k := by
  unfold kf_isCell kf_and at h
  by_cases h1 : kf_within x 0 5 = 0
  · rw [if_pos h1] at h; exact absurd rfl h
  by_cases h2 : kf_within y 0 3 = 0
  · rw [if_neg h1, if_pos h2] at h; exact absurd rfl h
  obtain ⟨r, hr, e1⟩ := kf_within_nI (n := 5) rfl (by decide) h1
  obtain ⟨k, hk, e2⟩ := kf_within_nI (n := 3) rfl (by decide) h2
  exact ⟨r, k, hr, hk, e1, e2⟩
def kg_ret (s : kn_S) (cc cl : Nat) : Int32 := kf_min ((if s 129 12 = 1 then s 129 7 else s 129 (17 + cc)) + s 129 (49 + cl)) (s 129 3)
def kg_thr (s : kn_S) (cc : Nat) : Int32 := s 129 (25 + cc) * s 129 0 / 4096 + 50
/-- the log has between no and sixty notes -/
def kg_ok (s : kn_S) : Prop := ∃ lc, lc ≤ 60 ∧ s 129 73 = nI lc
def kg_sh (s : kn_S) : Nat → kn_S
  | 0 => s
  | j + 1 => kn_up (kg_sh s j) 129 (74 + j) (kg_sh s j 129 (74 + j + 3))
theorem kg_sh_lo (s : kn_S) {j : Nat} (h : j < 74) : ∀ k, kg_sh s k 129 j = s 129 j
  | 0 => rfl
  | k + 1 => by
    show kn_up (kg_sh s k) 129 (74 + k) _ 129 j = s 129 j
    rw [kn_upk (by omega), kg_sh_lo s h k]
def kg_lw (s : kn_S) (t : Nat) (k n : Int32) : kn_S :=
  let s1 := kn_up (kn_up s 129 t k) 129 (t + 1) n
  let s2 := kn_up s1 129 (t + 2) (s1 129 9)
  kn_up s2 129 73 (s2 129 73 + 1)
def kg_log0 (s : kn_S) : kn_S := kn_up (kg_sh s 177) 129 73 (nI 59)
def kg_logs (s : kn_S) (k n : Int32) : kn_S := if s 129 73 = 60 then kg_lw (kg_log0 s) 251 k n else kg_lw s (74 + 3 * (s 129 73).toNatClampNeg) k n
theorem kg_lw_lo (s : kn_S) {t j : Nat} (k n : Int32) (ht : 74 ≤ t) (h : j < 73) : kg_lw s t k n 129 j = s 129 j := by
  dsimp only [kg_lw]
  rw [kn_upk (by omega), kn_upk (by omega), kn_upk (by omega), kn_upk (by omega)]
theorem kg_logs_lo (s : kn_S) {j : Nat} (k n : Int32) (h : j < 73) : kg_logs s k n 129 j = s 129 j := by
  unfold kg_logs
  split
  · rw [kg_lw_lo _ _ _ (by omega) h, kg_log0, kn_upk (by omega), kg_sh_lo s (by omega)]
  · rw [kg_lw_lo _ _ _ (by omega) h]
theorem kg_lw_73 (s : kn_S) {t : Nat} (k n : Int32) (ht : 74 ≤ t) : kg_lw s t k n 129 73 = s 129 73 + 1 := by
  dsimp only [kg_lw]
  have e : ∀ (s : kn_S) (v : Int32), kn_up s 129 73 v 129 73 = v := fun s v => by unfold kn_up; rw [if_pos ⟨rfl, rfl⟩]
  rw [e, kn_upk (by omega), kn_upk (by omega), kn_upk (by omega)]
theorem kg_logs_ok {s : kn_S} (k n : Int32) (h : kg_ok s) : kg_ok (kg_logs s k n) := by
  obtain ⟨lc, h1, h2⟩ := h
  unfold kg_logs
  split
  · refine ⟨60, by omega, ?_⟩
    rw [kg_lw_73 _ _ _ (by omega)]
    have e : ∀ (s : kn_S) (v : Int32), kn_up s 129 73 v 129 73 = v := fun s v => by unfold kn_up; rw [if_pos ⟨rfl, rfl⟩]
    rw [kg_log0, e]; rfl
  · rename_i h3
    refine ⟨lc + 1, ?_, ?_⟩
    · have : lc ≠ 60 := by intro q; subst q; exact h3 h2
      omega
    · rw [kg_lw_73 _ _ _ (by omega), h2, nI_1]
theorem kg_ok_of {s t : kn_S} (h : kg_ok s) (e : t 129 73 = s 129 73) : kg_ok t := by
  obtain ⟨lc, h1, h2⟩ := h
  exact ⟨lc, h1, e.trans h2⟩
def kg_s1 (s : kn_S) (e : Int32) : kn_S := if s 129 6 ≤ e then kn_up (kn_up s 129 13 0) 129 14 (kn_up s 129 13 0 129 14 + 1) else kn_up (kn_up s 129 13 (s 129 13 + 1)) 129 14 0
def kg_s3 (s : kn_S) : kn_S := if s 129 12 = 1 then (if s 129 14 < 50 then s else kg_logs (kn_up s 129 12 0) 2 0) else s
def kg_s2 (s : kn_S) : kn_S := if s 129 12 = 0 then (if s 129 13 < 20 then kg_s3 s else kg_logs (kn_up s 129 12 1) 1 0) else kg_s3 s
def kg_sen (s : kn_S) (e : Int32) : kn_S := kg_s2 (kg_s1 s e)
theorem kg_s1_o {s : kn_S} {j : Nat} (e : Int32) (h1 : j ≠ 13) (h2 : j ≠ 14) : kg_s1 s e 129 j = s 129 j := by
  unfold kg_s1
  split
  · rw [kn_upk h2, kn_upk h1]
  · rw [kn_upk h2, kn_upk h1]
theorem kg_s3_lo {s : kn_S} {j : Nat} (h1 : j ≠ 12) (h2 : j < 73) : kg_s3 s 129 j = s 129 j := by
  unfold kg_s3
  split
  · split
    · rfl
    · rw [kg_logs_lo _ _ _ h2, kn_upk h1]
  · rfl
theorem kg_s2_lo {s : kn_S} {j : Nat} (h1 : j ≠ 12) (h2 : j < 73) : kg_s2 s 129 j = s 129 j := by
  unfold kg_s2
  split
  · split
    · exact kg_s3_lo h1 h2
    · rw [kg_logs_lo _ _ _ h2, kn_upk h1]
  · exact kg_s3_lo h1 h2
theorem kg_s3_ok {s : kn_S} (h : kg_ok s) : kg_ok (kg_s3 s) := by
  unfold kg_s3
  split
  · split
    · exact h
    · exact kg_logs_ok _ _ (kg_ok_of h (kn_upk (by omega)))
  · exact h
theorem kg_sen_ok {s : kn_S} (e : Int32) (h : kg_ok s) : kg_ok (kg_sen s e) := by
  have h1 : kg_ok (kg_s1 s e) := kg_ok_of h (kg_s1_o e (by omega) (by omega))
  unfold kg_sen kg_s2
  split
  · split
    · exact kg_s3_ok h1
    · exact kg_logs_ok _ _ (kg_ok_of h1 (kn_upk (by omega)))
  · exact kg_s3_ok h1
theorem kg_sen_lo {s : kn_S} {j : Nat} (e : Int32) (h : j < 12) : kg_sen s e 129 j = s 129 j := by
  unfold kg_sen
  rw [kg_s2_lo (by omega) (by omega), kg_s1_o e (by omega) (by omega)]
def kg_kn (s : kn_S) (cc cl : Nat) (e t : Int32) : kn_S :=
  let its := kf_min (s 129 (17 + cc) + (s 129 1 + kf_min (3 * s 129 1) (s 129 1 * (e - t) / t))) (s 129 3 - s 129 (49 + cl))
  let s1 := kn_up s 129 (17 + cc) (if its ≤ s 129 (17 + cc) then s 129 (17 + cc) else its)
  let s2 := kn_up s1 129 (33 + cc) 0
  let s3 := kn_up s2 129 (41 + cc) (s2 129 (41 + cc) + 1)
  kg_logs s3 0 (nI cc)
def kg_re (s : kn_S) (cc : Nat) (e : Int32) : kn_S :=
  let s1 := kn_up s 129 (25 + cc) (s 129 (25 + cc) + kg_fl (256 * e - s 129 (25 + cc)) 16)
  let s2 := kn_up s1 129 (33 + cc) (s1 129 (33 + cc) + 1)
  if s2 129 (33 + cc) < s2 129 2 then s2 else
  let s3 := kn_up s2 129 (33 + cc) 0
  kn_up s3 129 (17 + cc) (s3 129 (17 + cc) - if s3 129 (17 + cc) ≤ 0 then 0 else 1)
def kg_gr (s : kn_S) : Nat → Int32
  | 0 => 0
  | j + 1 => if s 129 (17 + j) ≤ kg_gr s j then kg_gr s j else s 129 (17 + j)
def kg_ev (s : kn_S) (l : Int32) : Nat → kn_S
  | 0 => s
  | j + 1 => kn_up (kg_ev s l j) 129 (17 + j) (if l ≤ kg_ev s l j 129 (17 + j) then kg_ev s l j 129 (17 + j) else l)
def kg_dec (s : kn_S) : Nat → kn_S
  | 0 => s
  | j + 1 => kn_up (kg_dec s j) 129 (17 + j) (kg_dec s j 129 (17 + j) - if kg_dec s j 129 (17 + j) ≤ 0 then 0 else 1)
def kg_sum (s : kn_S) (b : Nat) : Nat → Int32
  | 0 => 0
  | j + 1 => kg_sum s b j + s 129 (b + j)
theorem kg_ev_o (s : kn_S) (l : Int32) {k : Nat} : ∀ j, j ≤ 8 → k < 17 ∨ 25 ≤ k → kg_ev s l j 129 k = s 129 k
  | 0, _, _ => rfl
  | j + 1, hj, h => by
    show kn_up (kg_ev s l j) 129 (17 + j) _ 129 k = s 129 k
    rw [kn_upk (by omega), kg_ev_o s l j (by omega) h]
theorem kg_dec_o (s : kn_S) {k : Nat} : ∀ j, j ≤ 8 → k < 17 ∨ 25 ≤ k → kg_dec s j 129 k = s 129 k
  | 0, _, _ => rfl
  | j + 1, hj, h => by
    show kn_up (kg_dec s j) 129 (17 + j) _ 129 k = s 129 k
    rw [kn_upk (by omega), kg_dec_o s j (by omega) h]
def kg_leL (s : kn_S) (cl : Nat) (mean : Int32) : kn_S := if 5 ≤ mean then s else if s 129 (49 + cl) ≤ 0 then s else kg_logs (kn_up s 129 (49 + cl) (s 129 (49 + cl) - 1)) 4 (nI cl)
def kg_leU (s : kn_S) (m cl : Nat) : kn_S := kg_logs (kg_dec (kn_up s 129 (49 + cl) (s 129 (49 + cl) + 1)) m) 3 (nI cl)
def kg_le (s : kn_S) (m cl : Nat) : kn_S := if kg_sum s 17 m / nI m ≤ 20 then kg_leL s cl (kg_sum s 17 m / nI m) else if 100 ≤ s 129 (49 + cl) then kg_leL s cl (kg_sum s 17 m / nI m) else kg_leU s m cl

