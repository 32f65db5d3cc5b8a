-- the model: a firing
def kg_evens (s : kn_S) (m : Nat) : kn_S := kg_ev s (kg_gr s m - s 129 4) m
def kg_cc (s : kn_S) (m : Nat) : Nat := (s 129 9).toNatClampNeg % m
def kg_t4 (s : kn_S) (cc cl : Nat) (e : Int32) : kn_S := if e ≤ kg_thr s cc then kg_re s cc e else kg_kn s cc cl e (kg_thr s cc)
def kg_t5 (s : kn_S) (m cl : Nat) : kn_S := if s 129 15 < s 129 5 then s else if s 129 15 - s 129 15 / nI m * nI m = 0 then kg_le s m cl else s
def kg_t6 (s : kn_S) : kn_S := kn_up s 129 9 (s 129 9 + 1)
def kg_tr2 (s : kn_S) (m cc cl : Nat) (e : Int32) : kn_S := if s 129 12 = 0 then kg_t6 (kg_t5 (kg_evens (kg_t4 s cc cl e) m) m cl) else kg_t6 s
def kg_ti (s : kn_S) (cc : Nat) (e : Int32) : Int32 := if s 129 12 = 0 then (if e ≤ kg_thr s cc then 0 else 1) else 2
def kg_t3 (s : kn_S) (cl : Nat) (e : Int32) : kn_S := kn_up (kn_up (kg_sen s e) 129 15 (if nI cl = kg_sen s e 129 16 then kg_sen s e 129 15 + 1 else 0)) 129 16 (nI cl)
def kg_tr (s : kn_S) (m cl : Nat) (e : Int32) : kn_S := kg_tr2 (kg_t3 s cl e) m (kg_cc s m) cl e
def kg_ta (s : kn_S) (m cl : Nat) (e : Int32) : Int32 := kg_ti (kg_t3 s cl e) (kg_cc s m) e
/-- what a firing asks of the row -/
def kg_tp (s : kn_S) (m cl : Nat) (e : Int32) : Prop := (s 129 8 = nI m ∧ 1 ≤ m ∧ m ≤ 8) ∧ kg_ok s ∧ (∃ fi, fi < 2 ^ 31 ∧ s 129 9 = nI fi) ∧ ¬ kg_thr (kg_t3 s cl e) (kg_cc s m) = 0
def kg_rn (s : kn_S) : kn_S := kn_up s 129 10 (kf_rnd (s 129 10))
def kg_ov (s : kn_S) (m cl : Nat) (x y w : Int32) : Int32 := 100 + x / 50 - y - kg_ret s (kg_cc s m) cl - kf_klim x y w
def kg_fe (s : kn_S) (m cl : Nat) (x y w : Int32) : Int32 := if s 129 11 = 1 then 0 else kf_min (x / 20 + y + (s 129 10 / 65536 - s 129 10 / 65536 / 40 * 40) + 12 * (if kg_ov s m cl x y w ≤ 0 then 0 else kg_ov s m cl x y w)) 20000
def kg_fp (s : kn_S) (m cl : Nat) (x y w : Int32) : Prop := kg_tp (kg_rn s) m cl (kg_fe (kg_rn s) m cl x y w)
def kg_fs (s : kn_S) (m cl : Nat) (x y w : Int32) : kn_S := kg_tr (kg_rn s) m cl (kg_fe (kg_rn s) m cl x y w)
def kg_fa (s : kn_S) (m cl : Nat) (x y w : Int32) : Int32 := kg_ta (kg_rn s) m cl (kg_fe (kg_rn s) m cl x y w)
theorem kg_rem {a m : Nat} (ha : a < 2 ^ 31) (hm : 1 ≤ m ∧ m ≤ 8) : nI a - nI a / nI m * nI m = nI (a % m) := by
  apply Int32.toInt_inj.mp
  have h1 : nI a / nI m = nI (a / m) := by
    apply Int32.toInt_inj.mp
    have h2 : a / m < 2 ^ 31 := by have := Nat.div_le_self a m; omega
    rw [Int32.toInt_div, nI_toInt ha, nI_toInt (by omega), nI_toInt h2]
    have h3 : ((a : Int).tdiv (m : Int)) = ((a / m : Nat) : Int) := by rw [Int.tdiv_eq_ediv_of_nonneg (by omega)]; rfl
    rw [h3]
    generalize a / m = d at h2
    exact Int.bmod_eq_of_le (by omega) (by omega)
  have h4 : nI (a / m) * nI m = nI (a / m * m) := (Int32.ofNat_mul _ _).symm
  have h5 : nI a = nI (a / m * m) + nI (a % m) := by rw [nI_add]; congr 1; exact (Nat.div_add_mod' a m).symm
  rw [h1, h4]
  generalize nI (a / m * m) = u at h5 ⊢
  rw [h5, Int32.add_comm, Int32.add_sub_cancel]
theorem kg_kn_lo (s : kn_S) {cc cl j : Nat} (e t : Int32) (h : j < 17) : kg_kn s cc cl e t 129 j = s 129 j := by
  dsimp only [kg_kn]
  rw [kg_logs_lo _ _ _ (by omega), kn_upk (by omega), kn_upk (by omega), kn_upk (by omega)]
theorem kg_kn_ok {s : kn_S} {cc cl : Nat} (e t : Int32) (hcc : cc < 8) (h : kg_ok s) : kg_ok (kg_kn s cc cl e t) := by
  dsimp only [kg_kn]
  refine kg_logs_ok _ _ (kg_ok_of h ?_)
  rw [kn_upk (by omega), kn_upk (by omega), kn_upk (by omega)]
theorem kg_re_o (s : kn_S) {cc j : Nat} (e : Int32) (hcc : cc < 8) (h : j < 17 ∨ 41 ≤ j) : kg_re s cc e 129 j = s 129 j := by
  dsimp only [kg_re]
  split
  · rw [kn_upk (by omega), kn_upk (by omega)]
  · rw [kn_upk (by omega), kn_upk (by omega), kn_upk (by omega), kn_upk (by omega)]

set_option maxRecDepth 100000 in
set_option maxHeartbeats 4000000 in
theorem m_X7_greatest {X : kn_X} {σ : kn_S} {τ : kn_T} {z : kn_Z} {c n : Nat} {Q : kn_Q} {m : Nat} (hM : kn_isM z) (hm8 : σ 129 8 = nI m) (hm : 1 ≤ m ∧ m ≤ 8) (hQ : Q (.inl (some (.int (kg_gr σ m)))) σ τ z) : kn_Ev X MX7_greatest [.ref 128] σ τ z c n Q := by
  refine kn_entry (by decide +kernel) rfl (Nat.le_of_ble_eq_true rfl) ?_
  show kn_Go X MX7_greatest 0 [(0, .ref 128)] [] _ _ _ _ _ _
  have lp4 : ∀ r9 : Nat, ∀ j : Nat, j + r9 = m → kn_Go X MX7_greatest 4 [(2, .int (nI j)), (1, .int (kg_gr σ j)), (0, .ref 128)] [] σ τ z c n Q := by
    intro r9
    induction r9 with
    | zero =>
      intro j hj
      obtain rfl : j = m := by omega
      refine k_iload_n 2 dX7_greatest_4 rfl rfl ?_
      refine k_aload_n 0 dX7_greatest_5 rfl rfl ?_
      refine k_getfield dX7_greatest_6 hc_X7 hM.1.1 hM.1.2 0 (by decide) wF_X7_7 rfl ?_
      refine k_bipush (8) dX7_greatest_9 (by decide) ?_
      refine k_ialoadV (8) dX7_greatest_11 hM.2.1.1 hM.2.1.2 (rfl) (⟨by omega, by decide⟩) (hm8) ?_
      refine k_icmpge 48 dX7_greatest_12 (by decide) (fun h12 => ?_) (fun h12 => ?_)
      · refine k_iload_n 1 dX7_greatest_48 rfl rfl ?_
        refine k_iret dX7_greatest_49 rfl (rfl) ?_
        exact hQ
      · exact absurd (nI_le (Nat.le_refl _) (by omega)) h12
    | succ r9 ih =>
      intro j hj
      refine k_iload_n 2 dX7_greatest_4 rfl rfl ?_
      refine k_aload_n 0 dX7_greatest_5 rfl rfl ?_
      refine k_getfield dX7_greatest_6 hc_X7 hM.1.1 hM.1.2 0 (by decide) wF_X7_7 rfl ?_
      refine k_bipush (8) dX7_greatest_9 (by decide) ?_
      refine k_ialoadV (8) dX7_greatest_11 hM.2.1.1 hM.2.1.2 (rfl) (⟨by omega, by decide⟩) (hm8) ?_
      refine k_icmpge 48 dX7_greatest_12 (by decide) (fun h12 => ?_) (fun h12 => ?_)
      · exact absurd h12 (nI_ge (by omega) (by omega))
      · refine k_aload_n 0 dX7_greatest_15 rfl rfl ?_
        refine k_getfield dX7_greatest_16 hc_X7 hM.1.1 hM.1.2 0 (by decide) wF_X7_7 rfl ?_
        refine k_bipush (17) dX7_greatest_19 (by decide) ?_
        refine k_iload_n 2 dX7_greatest_21 rfl rfl ?_
        refine k_iadd dX7_greatest_22 ?_
        refine k_ialoadN ((17 + j)) dX7_greatest_23 hM.2.1.1 hM.2.1.2 ((kg_add rfl rfl)) (⟨by omega, by decide⟩) ?_
        refine k_iload_n 1 dX7_greatest_24 rfl rfl ?_
        refine k_icmple 40 dX7_greatest_25 (by decide) (fun h25 => ?_) (fun h25 => ?_)
        · refine k_iload_n 1 dX7_greatest_40 rfl rfl ?_
          refine k_istore_n 1 (lv' := [(1, _), (2, _), (0, _)]) dX7_greatest_41 rfl (by decide) rfl ?_
          refine k_iinc (nI (j + 1)) (lv' := [(2, _), (1, _), (0, _)]) dX7_greatest_42 rfl (kn_inc j) (by decide) rfl ?_
          refine k_goto 4 dX7_greatest_45 (by decide) ?_
          have h9 := ih (j + 1) (by omega)
          rw [kg_gr, if_pos h25] at h9
          exact h9
        · refine k_aload_n 0 dX7_greatest_28 rfl rfl ?_
          refine k_getfield dX7_greatest_29 hc_X7 hM.1.1 hM.1.2 0 (by decide) wF_X7_7 rfl ?_
          refine k_bipush (17) dX7_greatest_32 (by decide) ?_
          refine k_iload_n 2 dX7_greatest_34 rfl rfl ?_
          refine k_iadd dX7_greatest_35 ?_
          refine k_ialoadN ((17 + j)) dX7_greatest_36 hM.2.1.1 hM.2.1.2 ((kg_add rfl rfl)) (⟨by omega, by decide⟩) ?_
          refine k_goto 41 dX7_greatest_37 (by decide) ?_
          refine k_istore_n 1 (lv' := [(1, _), (2, _), (0, _)]) dX7_greatest_41 rfl (by decide) rfl ?_
          refine k_iinc (nI (j + 1)) (lv' := [(2, _), (1, _), (0, _)]) dX7_greatest_42 rfl (kn_inc j) (by decide) rfl ?_
          refine k_goto 4 dX7_greatest_45 (by decide) ?_
          have h9 := ih (j + 1) (by omega)
          rw [kg_gr, if_neg h25] at h9
          exact h9
  refine k_iconst (0) dX7_greatest_0 (by decide) ?_
  refine k_istore_n 1 (lv' := [(1, _), (0, _)]) dX7_greatest_1 rfl (by decide) rfl ?_
  refine k_iconst (0) dX7_greatest_2 (by decide) ?_
  refine k_istore_n 2 (lv' := [(2, _), (1, _), (0, _)]) dX7_greatest_3 rfl (by decide) rfl ?_
  exact lp4 m 0 (by omega)

set_option maxRecDepth 100000 in
set_option maxHeartbeats 4000000 in
theorem m_X7_evens {X : kn_X} {σ : kn_S} {τ : kn_T} {z : kn_Z} {c n : Nat} {Q : kn_Q} {m : Nat} (hM : kn_isM z) (hm8 : σ 129 8 = nI m) (hm : 1 ≤ m ∧ m ≤ 8) (hQ : Q (.inl none) (kg_evens σ m) τ z) : kn_Ev X MX7_evens [.ref 128] σ τ z c n Q := by
  refine kn_entry (by decide +kernel) rfl (Nat.le_of_ble_eq_true rfl) ?_
  show kn_Go X MX7_evens 0 [(0, .ref 128)] [] _ _ _ _ _ _
  have lp14 : ∀ r9 : Nat, ∀ j : Nat, j + r9 = m → kn_Go X MX7_evens 14 [(2, .int (nI j)), (1, .int (kg_gr σ m - σ 129 4)), (0, .ref 128)] [] (kg_ev σ (kg_gr σ m - σ 129 4) j) τ z c n Q := by
    intro r9
    induction r9 with
    | zero =>
      intro j hj
      obtain rfl : j = m := by omega
      refine k_iload_n 2 dX7_evens_14 rfl rfl ?_
      refine k_aload_n 0 dX7_evens_15 rfl rfl ?_
      refine k_getfield dX7_evens_16 hc_X7 hM.1.1 hM.1.2 0 (by decide) wF_X7_7 rfl ?_
      refine k_bipush (8) dX7_evens_19 (by decide) ?_
      refine k_ialoadV (8) dX7_evens_21 hM.2.1.1 hM.2.1.2 (rfl) (⟨by omega, by decide⟩) ((kg_ev_o σ _ j (by omega) (Or.inl (by omega))).trans hm8) ?_
      refine k_icmpge 66 dX7_evens_22 (by decide) (fun h22 => ?_) (fun h22 => ?_)
      · refine k_vret dX7_evens_66 rfl ?_
        exact hQ
      · exact absurd (nI_le (Nat.le_refl _) (by omega)) h22
    | succ r9 ih =>
      intro j hj
      refine k_iload_n 2 dX7_evens_14 rfl rfl ?_
      refine k_aload_n 0 dX7_evens_15 rfl rfl ?_
      refine k_getfield dX7_evens_16 hc_X7 hM.1.1 hM.1.2 0 (by decide) wF_X7_7 rfl ?_
      refine k_bipush (8) dX7_evens_19 (by decide) ?_
      refine k_ialoadV (8) dX7_evens_21 hM.2.1.1 hM.2.1.2 (rfl) (⟨by omega, by decide⟩) ((kg_ev_o σ _ j (by omega) (Or.inl (by omega))).trans hm8) ?_
      refine k_icmpge 66 dX7_evens_22 (by decide) (fun h22 => ?_) (fun h22 => ?_)
      · exact absurd h22 (nI_ge (by omega) (by omega))
      · refine k_aload_n 0 dX7_evens_25 rfl rfl ?_
        refine k_getfield dX7_evens_26 hc_X7 hM.1.1 hM.1.2 0 (by decide) wF_X7_7 rfl ?_
        refine k_bipush (17) dX7_evens_29 (by decide) ?_
        refine k_iload_n 2 dX7_evens_31 rfl rfl ?_
        refine k_iadd dX7_evens_32 ?_
        refine k_aload_n 0 dX7_evens_33 rfl rfl ?_
        refine k_getfield dX7_evens_34 hc_X7 hM.1.1 hM.1.2 0 (by decide) wF_X7_7 rfl ?_
        refine k_bipush (17) dX7_evens_37 (by decide) ?_
        refine k_iload_n 2 dX7_evens_39 rfl rfl ?_
        refine k_iadd dX7_evens_40 ?_
        refine k_ialoadN ((17 + j)) dX7_evens_41 hM.2.1.1 hM.2.1.2 ((kg_add rfl rfl)) (⟨by omega, by decide⟩) ?_
        refine k_iload_n 1 dX7_evens_42 rfl rfl ?_
        refine k_icmpge 50 dX7_evens_43 (by decide) (fun h43 => ?_) (fun h43 => ?_)
        · refine k_aload_n 0 dX7_evens_50 rfl rfl ?_
          refine k_getfield dX7_evens_51 hc_X7 hM.1.1 hM.1.2 0 (by decide) wF_X7_7 rfl ?_
          refine k_bipush (17) dX7_evens_54 (by decide) ?_
          refine k_iload_n 2 dX7_evens_56 rfl rfl ?_
          refine k_iadd dX7_evens_57 ?_
          refine k_ialoadN ((17 + j)) dX7_evens_58 hM.2.1.1 hM.2.1.2 ((kg_add rfl rfl)) (⟨by omega, by decide⟩) ?_
          refine k_iastoreN ((17 + j)) dX7_evens_59 hM.2.1.1 hM.2.1.2 ((kg_add rfl rfl)) (⟨by omega, by decide⟩) ?_
          refine k_iinc (nI (j + 1)) (lv' := [(2, _), (1, _), (0, _)]) dX7_evens_60 rfl (kn_inc j) (by decide) rfl ?_
          refine k_goto 14 dX7_evens_63 (by decide) ?_
          have h9 := ih (j + 1) (by omega)
          rw [kg_ev, if_pos h43] at h9
          exact h9
        · refine k_iload_n 1 dX7_evens_46 rfl rfl ?_
          refine k_goto 59 dX7_evens_47 (by decide) ?_
          refine k_iastoreN ((17 + j)) dX7_evens_59 hM.2.1.1 hM.2.1.2 ((kg_add rfl rfl)) (⟨by omega, by decide⟩) ?_
          refine k_iinc (nI (j + 1)) (lv' := [(2, _), (1, _), (0, _)]) dX7_evens_60 rfl (kn_inc j) (by decide) rfl ?_
          refine k_goto 14 dX7_evens_63 (by decide) ?_
          have h9 := ih (j + 1) (by omega)
          rw [kg_ev, if_neg h43] at h9
          exact h9
  refine k_aload_n 0 dX7_evens_0 rfl rfl ?_
  refine k_invV (As := []) dX7_evens_1 mm_X7_greatest wL_X7_70 ⟨by decide, by decide⟩ hM.1.1 hM.1.2 rfl rfl (Nat.le_of_ble_eq_true rfl) (Nat.zero_le _) (Nat.zero_le _) (m_X7_greatest (m := m) hM hm8 hm ⟨rfl, ?_⟩)
  refine k_aload_n 0 dX7_evens_4 rfl rfl ?_
  refine k_getfield dX7_evens_5 hc_X7 hM.1.1 hM.1.2 0 (by decide) wF_X7_7 rfl ?_
  refine k_iconst (4) dX7_evens_8 (by decide) ?_
  refine k_ialoadN (4) dX7_evens_9 hM.2.1.1 hM.2.1.2 (rfl) (⟨by omega, by decide⟩) ?_
  refine k_isub dX7_evens_10 ?_
  refine k_istore_n 1 (lv' := [(1, _), (0, _)]) dX7_evens_11 rfl (by decide) rfl ?_
  refine k_iconst (0) dX7_evens_12 (by decide) ?_
  refine k_istore_n 2 (lv' := [(2, _), (1, _), (0, _)]) dX7_evens_13 rfl (by decide) rfl ?_
  exact lp14 m 0 (by omega)

set_option maxRecDepth 100000 in
set_option maxHeartbeats 4000000 in
theorem m_X7_learns {X : kn_X} {σ : kn_S} {τ : kn_T} {z : kn_Z} {c n : Nat} {Q : kn_Q} {m cl : Nat} (hM : kn_isM z) (hok : kg_ok σ) (hm8 : σ 129 8 = nI m) (hm : 1 ≤ m ∧ m ≤ 8) (hcl : cl < 24) (hQ : Q (.inl none) (kg_le σ m cl) τ z) : kn_Ev X MX7_learns [.ref 128, .int (nI cl)] σ τ z c n Q := by
  refine kn_entry (by decide +kernel) rfl (Nat.le_of_ble_eq_true rfl) ?_
  show kn_Go X MX7_learns 0 [(0, .ref 128), (1, .int (nI cl))] [] _ _ _ _ _ _
  have cut139 : ∀ mean : Int32, Q (.inl none) (kg_leL σ cl mean) τ z → kn_Go X MX7_learns 139 [(3, .int mean), (4, .int (49 + nI cl)), (0, .ref 128), (1, .int (nI cl))] [] σ τ z c n Q := by
    intro mean hQ
    refine k_iload_n 3 dX7_learns_139 rfl rfl ?_
    refine k_iconst (5) dX7_learns_140 (by decide) ?_
    refine k_icmpge 171 dX7_learns_141 (by decide) (fun h141 => ?_) (fun h141 => ?_)
    · refine k_vret dX7_learns_171 rfl ?_
      rw [kg_leL, if_pos h141] at hQ
      exact hQ
    · refine k_aload_n 0 dX7_learns_144 rfl rfl ?_
      refine k_getfield dX7_learns_145 hc_X7 hM.1.1 hM.1.2 0 (by decide) wF_X7_7 rfl ?_
      refine k_iload dX7_learns_148 rfl ?_
      refine k_ialoadN ((49 + cl)) dX7_learns_150 hM.2.1.1 hM.2.1.2 ((kg_add rfl rfl)) (⟨by omega, by decide⟩) ?_
      refine k_ifle 171 dX7_learns_151 (by decide) (fun h151 => ?_) (fun h151 => ?_)
      · refine k_vret dX7_learns_171 rfl ?_
        rw [kg_leL, if_neg h141, if_pos h151] at hQ
        exact hQ
      · refine k_aload_n 0 dX7_learns_154 rfl rfl ?_
        refine k_getfield dX7_learns_155 hc_X7 hM.1.1 hM.1.2 0 (by decide) wF_X7_7 rfl ?_
        refine k_iload dX7_learns_158 rfl ?_
        refine k_dup2 dX7_learns_160 rfl rfl ?_
        refine k_ialoadN ((49 + cl)) dX7_learns_161 hM.2.1.1 hM.2.1.2 ((kg_add rfl rfl)) (⟨by omega, by decide⟩) ?_
        refine k_iconst (1) dX7_learns_162 (by decide) ?_
        refine k_isub dX7_learns_163 ?_
        refine k_iastoreN ((49 + cl)) dX7_learns_164 hM.2.1.1 hM.2.1.2 ((kg_add rfl rfl)) (⟨by omega, by decide⟩) ?_
        refine k_aload_n 0 dX7_learns_165 rfl rfl ?_
        refine k_iconst (4) dX7_learns_166 (by decide) ?_
        refine k_iload_n 1 dX7_learns_167 rfl rfl ?_
        refine k_invV (As := [_, _]) dX7_learns_168 mm_X7_logs wL_X7_63 ⟨by decide, by decide⟩ hM.1.1 hM.1.2 rfl rfl (Nat.le_of_ble_eq_true rfl) (Nat.zero_le _) (Nat.zero_le _) (m_X7_logs hM (kg_ok_of hok (kn_upk (by omega))) ⟨rfl, ?_⟩)
        refine k_vret dX7_learns_171 rfl ?_
        rw [kg_leL, if_neg h141, if_neg h151] at hQ
        exact hQ
  have lp81 : ∀ r9 : Nat, ∀ j : Nat, j + r9 = m → Q (.inl none) (kg_leU σ m cl) τ z → kn_Go X MX7_learns 81 [(5, .int (nI j)), (0, .ref 128), (1, .int (nI cl))] [] (kg_dec (kn_up σ 129 (49 + cl) (σ 129 (49 + cl) + 1)) j) τ z c n Q := by
    intro r9
    induction r9 with
    | zero =>
      intro j hj hQ
      obtain rfl : j = m := by omega
      refine k_iload dX7_learns_81 rfl ?_
      refine k_aload_n 0 dX7_learns_83 rfl rfl ?_
      refine k_getfield dX7_learns_84 hc_X7 hM.1.1 hM.1.2 0 (by decide) wF_X7_7 rfl ?_
      refine k_bipush (8) dX7_learns_87 (by decide) ?_
      refine k_ialoadV (8) dX7_learns_89 hM.2.1.1 hM.2.1.2 (rfl) (⟨by omega, by decide⟩) ((kg_dec_o _ j (by omega) (Or.inl (by omega))).trans ((kn_upk (by omega)).trans hm8)) ?_
      refine k_icmpge 130 dX7_learns_90 (by decide) (fun h90 => ?_) (fun h90 => ?_)
      · refine k_aload_n 0 dX7_learns_130 rfl rfl ?_
        refine k_iconst (3) dX7_learns_131 (by decide) ?_
        refine k_iload_n 1 dX7_learns_132 rfl rfl ?_
        refine k_invV (As := [_, _]) dX7_learns_133 mm_X7_logs wL_X7_63 ⟨by decide, by decide⟩ hM.1.1 hM.1.2 rfl rfl (Nat.le_of_ble_eq_true rfl) (Nat.zero_le _) (Nat.zero_le _) (m_X7_logs hM (kg_ok_of hok ((kg_dec_o _ _ (by omega) (Or.inr (by omega))).trans (kn_upk (by omega)))) ⟨rfl, ?_⟩)
        refine k_goto 171 dX7_learns_136 (by decide) ?_
        refine k_vret dX7_learns_171 rfl ?_
        exact hQ
      · exact absurd (nI_le (Nat.le_refl _) (by omega)) h90
    | succ r9 ih =>
      intro j hj hQ
      refine k_iload dX7_learns_81 rfl ?_
      refine k_aload_n 0 dX7_learns_83 rfl rfl ?_
      refine k_getfield dX7_learns_84 hc_X7 hM.1.1 hM.1.2 0 (by decide) wF_X7_7 rfl ?_
      refine k_bipush (8) dX7_learns_87 (by decide) ?_
      refine k_ialoadV (8) dX7_learns_89 hM.2.1.1 hM.2.1.2 (rfl) (⟨by omega, by decide⟩) ((kg_dec_o _ j (by omega) (Or.inl (by omega))).trans ((kn_upk (by omega)).trans hm8)) ?_
      refine k_icmpge 130 dX7_learns_90 (by decide) (fun h90 => ?_) (fun h90 => ?_)
      · exact absurd h90 (nI_ge (by omega) (by omega))
      · refine k_aload_n 0 dX7_learns_93 rfl rfl ?_
        refine k_getfield dX7_learns_94 hc_X7 hM.1.1 hM.1.2 0 (by decide) wF_X7_7 rfl ?_
        refine k_bipush (17) dX7_learns_97 (by decide) ?_
        refine k_iload dX7_learns_99 rfl ?_
        refine k_iadd dX7_learns_101 ?_
        refine k_dup2 dX7_learns_102 rfl rfl ?_
        refine k_ialoadN ((17 + j)) dX7_learns_103 hM.2.1.1 hM.2.1.2 ((kg_add rfl rfl)) (⟨by omega, by decide⟩) ?_
        refine k_aload_n 0 dX7_learns_104 rfl rfl ?_
        refine k_getfield dX7_learns_105 hc_X7 hM.1.1 hM.1.2 0 (by decide) wF_X7_7 rfl ?_
        refine k_bipush (17) dX7_learns_108 (by decide) ?_
        refine k_iload dX7_learns_110 rfl ?_
        refine k_iadd dX7_learns_112 ?_
        refine k_ialoadN ((17 + j)) dX7_learns_113 hM.2.1.1 hM.2.1.2 ((kg_add rfl rfl)) (⟨by omega, by decide⟩) ?_
        refine k_ifle 121 dX7_learns_114 (by decide) (fun h114 => ?_) (fun h114 => ?_)
        · refine k_iconst (0) dX7_learns_121 (by decide) ?_
          refine k_isub dX7_learns_122 ?_
          refine k_iastoreN ((17 + j)) dX7_learns_123 hM.2.1.1 hM.2.1.2 ((kg_add rfl rfl)) (⟨by omega, by decide⟩) ?_
          refine k_iinc (nI (j + 1)) (lv' := [(5, _), (0, _), (1, _)]) dX7_learns_124 rfl (kn_inc j) (by decide) rfl ?_
          refine k_goto 81 dX7_learns_127 (by decide) ?_
          have h9 := ih (j + 1) (by omega) hQ
          rw [kg_dec, if_pos h114] at h9
          exact h9
        · refine k_iconst (1) dX7_learns_117 (by decide) ?_
          refine k_goto 122 dX7_learns_118 (by decide) ?_
          refine k_isub dX7_learns_122 ?_
          refine k_iastoreN ((17 + j)) dX7_learns_123 hM.2.1.1 hM.2.1.2 ((kg_add rfl rfl)) (⟨by omega, by decide⟩) ?_
          refine k_iinc (nI (j + 1)) (lv' := [(5, _), (0, _), (1, _)]) dX7_learns_124 rfl (kn_inc j) (by decide) rfl ?_
          refine k_goto 81 dX7_learns_127 (by decide) ?_
          have h9 := ih (j + 1) (by omega) hQ
          rw [kg_dec, if_neg h114] at h9
          exact h9
  have lp4 : ∀ r9 : Nat, ∀ j : Nat, j + r9 = m → kn_Go X MX7_learns 4 [(3, .int (nI j)), (2, .int (kg_sum σ 17 j)), (0, .ref 128), (1, .int (nI cl))] [] σ τ z c n Q := by
    intro r9
    induction r9 with
    | zero =>
      intro j hj
      obtain rfl : j = m := by omega
      refine k_iload_n 3 dX7_learns_4 rfl rfl ?_
      refine k_aload_n 0 dX7_learns_5 rfl rfl ?_
      refine k_getfield dX7_learns_6 hc_X7 hM.1.1 hM.1.2 0 (by decide) wF_X7_7 rfl ?_
      refine k_bipush (8) dX7_learns_9 (by decide) ?_
      refine k_ialoadV (8) dX7_learns_11 hM.2.1.1 hM.2.1.2 (rfl) (⟨by omega, by decide⟩) (hm8) ?_
      refine k_icmpge 33 dX7_learns_12 (by decide) (fun h12 => ?_) (fun h12 => ?_)
      · refine k_iload_n 2 dX7_learns_33 rfl rfl ?_
        refine k_aload_n 0 dX7_learns_34 rfl rfl ?_
        refine k_getfield dX7_learns_35 hc_X7 hM.1.1 hM.1.2 0 (by decide) wF_X7_7 rfl ?_
        refine k_bipush (8) dX7_learns_38 (by decide) ?_
        refine k_ialoadV (8) dX7_learns_40 hM.2.1.1 hM.2.1.2 (rfl) (⟨by omega, by decide⟩) (hm8) ?_
        refine k_idiv dX7_learns_41 (nI_ne0 (by omega) (by omega)) ?_
        refine k_istore_n 3 (lv' := [(3, _), (2, _), (0, _), (1, _)]) dX7_learns_42 rfl (by decide) rfl ?_
        refine k_bipush (49) dX7_learns_43 (by decide) ?_
        refine k_iload_n 1 dX7_learns_45 rfl rfl ?_
        refine k_iadd dX7_learns_46 ?_
        refine k_istore (lv' := [(4, _), (3, _), (2, _), (0, _), (1, _)]) dX7_learns_47 (by decide) rfl ?_
        refine k_iload_n 3 dX7_learns_49 rfl rfl ?_
        refine k_bipush (20) dX7_learns_50 (by decide) ?_
        refine k_icmple 139 dX7_learns_52 (by decide) (fun h52 => ?_) (fun h52 => ?_)
        · refine k_re [3, 4, 0, 1] (lv' := [(3, _), (4, _), (0, _), (1, _)]) rfl ?_
          rw [kg_le, if_pos h52] at hQ
          exact cut139 _ hQ
        · refine k_aload_n 0 dX7_learns_55 rfl rfl ?_
          refine k_getfield dX7_learns_56 hc_X7 hM.1.1 hM.1.2 0 (by decide) wF_X7_7 rfl ?_
          refine k_iload dX7_learns_59 rfl ?_
          refine k_ialoadN ((49 + cl)) dX7_learns_61 hM.2.1.1 hM.2.1.2 ((kg_add rfl rfl)) (⟨by omega, by decide⟩) ?_
          refine k_bipush (100) dX7_learns_62 (by decide) ?_
          refine k_icmpge 139 dX7_learns_64 (by decide) (fun h64 => ?_) (fun h64 => ?_)
          · refine k_re [3, 4, 0, 1] (lv' := [(3, _), (4, _), (0, _), (1, _)]) rfl ?_
            rw [kg_le, if_neg h52, if_pos h64] at hQ
            exact cut139 _ hQ
          · refine k_aload_n 0 dX7_learns_67 rfl rfl ?_
            refine k_getfield dX7_learns_68 hc_X7 hM.1.1 hM.1.2 0 (by decide) wF_X7_7 rfl ?_
            refine k_iload dX7_learns_71 rfl ?_
            refine k_dup2 dX7_learns_73 rfl rfl ?_
            refine k_ialoadN ((49 + cl)) dX7_learns_74 hM.2.1.1 hM.2.1.2 ((kg_add rfl rfl)) (⟨by omega, by decide⟩) ?_
            refine k_iconst (1) dX7_learns_75 (by decide) ?_
            refine k_iadd dX7_learns_76 ?_
            refine k_iastoreN ((49 + cl)) dX7_learns_77 hM.2.1.1 hM.2.1.2 ((kg_add rfl rfl)) (⟨by omega, by decide⟩) ?_
            refine k_iconst (0) dX7_learns_78 (by decide) ?_
            refine k_istore (lv' := [(5, _), (4, _), (3, _), (2, _), (0, _), (1, _)]) dX7_learns_79 (by decide) rfl ?_
            refine k_re [5, 0, 1] (lv' := [(5, _), (0, _), (1, _)]) rfl ?_
            rw [kg_le, if_neg h52, if_neg h64] at hQ
            exact lp81 _ 0 (Nat.zero_add _) hQ
      · exact absurd (nI_le (Nat.le_refl _) (by omega)) h12
    | succ r9 ih =>
      intro j hj
      refine k_iload_n 3 dX7_learns_4 rfl rfl ?_
      refine k_aload_n 0 dX7_learns_5 rfl rfl ?_
      refine k_getfield dX7_learns_6 hc_X7 hM.1.1 hM.1.2 0 (by decide) wF_X7_7 rfl ?_
      refine k_bipush (8) dX7_learns_9 (by decide) ?_
      refine k_ialoadV (8) dX7_learns_11 hM.2.1.1 hM.2.1.2 (rfl) (⟨by omega, by decide⟩) (hm8) ?_
      refine k_icmpge 33 dX7_learns_12 (by decide) (fun h12 => ?_) (fun h12 => ?_)
      · exact absurd h12 (nI_ge (by omega) (by omega))
      · refine k_iload_n 2 dX7_learns_15 rfl rfl ?_
        refine k_aload_n 0 dX7_learns_16 rfl rfl ?_
        refine k_getfield dX7_learns_17 hc_X7 hM.1.1 hM.1.2 0 (by decide) wF_X7_7 rfl ?_
        refine k_bipush (17) dX7_learns_20 (by decide) ?_
        refine k_iload_n 3 dX7_learns_22 rfl rfl ?_
        refine k_iadd dX7_learns_23 ?_
        refine k_ialoadN ((17 + j)) dX7_learns_24 hM.2.1.1 hM.2.1.2 ((kg_add rfl rfl)) (⟨by omega, by decide⟩) ?_
        refine k_iadd dX7_learns_25 ?_
        refine k_istore_n 2 (lv' := [(2, _), (3, _), (0, _), (1, _)]) dX7_learns_26 rfl (by decide) rfl ?_
        refine k_iinc (nI (j + 1)) (lv' := [(3, _), (2, _), (0, _), (1, _)]) dX7_learns_27 rfl (kn_inc j) (by decide) rfl ?_
        refine k_goto 4 dX7_learns_30 (by decide) ?_
        exact ih (j + 1) (by omega)
  refine k_iconst (0) dX7_learns_0 (by decide) ?_
  refine k_istore_n 2 (lv' := [(2, _), (0, _), (1, _)]) dX7_learns_1 rfl (by decide) rfl ?_
  refine k_iconst (0) dX7_learns_2 (by decide) ?_
  refine k_istore_n 3 (lv' := [(3, _), (2, _), (0, _), (1, _)]) dX7_learns_3 rfl (by decide) rfl ?_
  exact lp4 m 0 (by omega)

set_option maxRecDepth 100000 in
set_option maxHeartbeats 4000000 in
theorem m_X7_treats {X : kn_X} {σ : kn_S} {τ : kn_T} {z : kn_Z} {c n : Nat} {Q : kn_Q} {m cl : Nat} {x y e : Int32} (hM : kn_isM z) (hP : kg_tp σ m cl e) (hce : kf_cell x y = nI cl) (hcl : cl < 24) (hQ : Q (.inl (some (.int (kg_ta σ m cl e)))) (kg_tr σ m cl e) τ z) : kn_Ev X MX7_treats [.ref 128, .int x, .int y, .int e] σ τ z c n Q := by
  obtain ⟨⟨hm8, hm⟩, hok, ⟨fi, hfi31, hfi⟩, hth⟩ := hP
  have hcc9 : kg_cc σ m = fi % m := by rw [kg_cc, hfi, nI_clamp hfi31]
  rw [hcc9] at hth
  rw [kg_ta, kg_tr, hcc9] at hQ
  refine kn_entry (by decide +kernel) rfl (Nat.le_of_ble_eq_true rfl) ?_
  show kn_Go X MX7_treats 0 [(0, .ref 128), (1, .int x), (2, .int y), (3, .int e)] [] _ _ _ _ _ _
  have cut175 : ∀ (its : Int32) (s9 : kn_S), Q (.inl (some (.int its))) (kg_t6 s9) τ z → kn_Go X MX7_treats 175 [(6, .int its), (0, .ref 128)] [] s9 τ z c n Q := by
    intro its s9 hQ
    refine k_aload_n 0 dX7_treats_175 rfl rfl ?_
    refine k_getfield dX7_treats_176 hc_X7 hM.1.1 hM.1.2 0 (by decide) wF_X7_7 rfl ?_
    refine k_bipush (9) dX7_treats_179 (by decide) ?_
    refine k_dup2 dX7_treats_181 rfl rfl ?_
    refine k_ialoadN (9) dX7_treats_182 hM.2.1.1 hM.2.1.2 (rfl) (⟨by omega, by decide⟩) ?_
    refine k_iconst (1) dX7_treats_183 (by decide) ?_
    refine k_iadd dX7_treats_184 ?_
    refine k_iastoreN (9) dX7_treats_185 hM.2.1.1 hM.2.1.2 (rfl) (⟨by omega, by decide⟩) ?_
    refine k_iload dX7_treats_186 rfl ?_
    refine k_iret dX7_treats_188 rfl (rfl) ?_
    exact hQ
  have cut131 : ∀ (its : Int32) (s9 : kn_S), kg_ok s9 → s9 129 8 = nI m → Q (.inl (some (.int its))) (kg_t6 (kg_t5 (kg_evens s9 m) m cl)) τ z → kn_Go X MX7_treats 131 [(5, .int (nI cl)), (6, .int its), (0, .ref 128)] [] s9 τ z c n Q := by
    intro its s9 hok9 h8 hQ
    refine k_aload_n 0 dX7_treats_131 rfl rfl ?_
    refine k_invV (As := []) dX7_treats_132 mm_X7_evens wL_X7_88 ⟨by decide, by decide⟩ hM.1.1 hM.1.2 rfl rfl (Nat.le_of_ble_eq_true rfl) (Nat.zero_le _) (Nat.zero_le _) (m_X7_evens (m := m) hM h8 hm ⟨rfl, ?_⟩)
    refine k_aload_n 0 dX7_treats_135 rfl rfl ?_
    refine k_getfield dX7_treats_136 hc_X7 hM.1.1 hM.1.2 0 (by decide) wF_X7_7 rfl ?_
    refine k_bipush (15) dX7_treats_139 (by decide) ?_
    refine k_ialoadN (15) dX7_treats_141 hM.2.1.1 hM.2.1.2 (rfl) (⟨by omega, by decide⟩) ?_
    refine k_aload_n 0 dX7_treats_142 rfl rfl ?_
    refine k_getfield dX7_treats_143 hc_X7 hM.1.1 hM.1.2 0 (by decide) wF_X7_7 rfl ?_
    refine k_iconst (5) dX7_treats_146 (by decide) ?_
    refine k_ialoadN (5) dX7_treats_147 hM.2.1.1 hM.2.1.2 (rfl) (⟨by omega, by decide⟩) ?_
    refine k_icmplt 175 dX7_treats_148 (by decide) (fun h148 => ?_) (fun h148 => ?_)
    · refine k_re [6, 0] (lv' := [(6, _), (0, _)]) rfl ?_
      first
        | (simp only [kg_ti, kg_tr2, if_pos h148] at hQ; exact cut175 _ _ hQ)
        | (simp only [kg_t5, if_pos h148] at hQ; exact cut175 _ _ hQ)
    · refine k_aload_n 0 dX7_treats_151 rfl rfl ?_
      refine k_getfield dX7_treats_152 hc_X7 hM.1.1 hM.1.2 0 (by decide) wF_X7_7 rfl ?_
      refine k_bipush (15) dX7_treats_155 (by decide) ?_
      refine k_ialoadN (15) dX7_treats_157 hM.2.1.1 hM.2.1.2 (rfl) (⟨by omega, by decide⟩) ?_
      refine k_aload_n 0 dX7_treats_158 rfl rfl ?_
      refine k_getfield dX7_treats_159 hc_X7 hM.1.1 hM.1.2 0 (by decide) wF_X7_7 rfl ?_
      refine k_bipush (8) dX7_treats_162 (by decide) ?_
      refine k_ialoadV (8) dX7_treats_164 hM.2.1.1 hM.2.1.2 (rfl) (⟨by omega, by decide⟩) ((kg_ev_o _ _ m hm.2 (Or.inl (by omega))).trans h8) ?_
      refine k_irem dX7_treats_165 (nI_ne0 (by omega) (by omega)) ?_
      refine k_ifne 175 dX7_treats_166 (by decide) (fun h166 => ?_) (fun h166 => ?_)
      · refine k_re [6, 0] (lv' := [(6, _), (0, _)]) rfl ?_
        first
          | (simp only [kg_ti, kg_tr2, if_neg h148, if_neg h166] at hQ; exact cut175 _ _ hQ)
          | (simp only [kg_t5, if_neg h148, if_neg h166] at hQ; exact cut175 _ _ hQ)
      · refine k_aload_n 0 dX7_treats_169 rfl rfl ?_
        refine k_iload dX7_treats_170 rfl ?_
        refine k_invV (As := [_]) dX7_treats_172 mm_X7_learns wL_X7_91 ⟨by decide, by decide⟩ hM.1.1 hM.1.2 rfl rfl (Nat.le_of_ble_eq_true rfl) (Nat.zero_le _) (Nat.zero_le _) (m_X7_learns (m := m) (cl := cl) hM (kg_ok_of hok9 (kg_ev_o _ _ m hm.2 (Or.inr (by omega)))) ((kg_ev_o _ _ m hm.2 (Or.inl (by omega))).trans h8) hm hcl ⟨rfl, ?_⟩)
        refine k_re [6, 0] (lv' := [(6, _), (0, _)]) rfl ?_
        first
          | (simp only [kg_ti, kg_tr2, if_neg h148, if_pos h166] at hQ; exact cut175 _ _ hQ)
          | (simp only [kg_t5, if_neg h148, if_pos h166] at hQ; exact cut175 _ _ hQ)
  have cut73 : ∀ (cc : Nat) (s9 : kn_S), cc < 8 → kg_ok s9 → s9 129 8 = nI m → ¬ kg_thr s9 cc = 0 → Q (.inl (some (.int (kg_ti s9 cc e)))) (kg_tr2 s9 m cc cl e) τ z → kn_Go X MX7_treats 73 [(4, .int (nI cc)), (5, .int (nI cl)), (6, .int 2), (0, .ref 128), (3, .int e)] [] s9 τ z c n Q := by
    intro cc s9 hcc hok9 h8 hth9 hQ
    refine k_aload_n 0 dX7_treats_73 rfl rfl ?_
    refine k_getfield dX7_treats_74 hc_X7 hM.1.1 hM.1.2 0 (by decide) wF_X7_7 rfl ?_
    refine k_bipush (12) dX7_treats_77 (by decide) ?_
    refine k_ialoadN (12) dX7_treats_79 hM.2.1.1 hM.2.1.2 (rfl) (⟨by omega, by decide⟩) ?_
    refine k_ifne 175 dX7_treats_80 (by decide) (fun h80 => ?_) (fun h80 => ?_)
    · refine k_re [6, 0] (lv' := [(6, _), (0, _)]) rfl ?_
      first
        | (simp only [kg_ti, kg_tr2, if_neg h80] at hQ; exact cut175 _ _ hQ)
        | (simp only [kg_t5, if_neg h80] at hQ; exact cut175 _ _ hQ)
    · refine k_aload_n 0 dX7_treats_83 rfl rfl ?_
      refine k_iload dX7_treats_84 rfl ?_
      refine k_invV (As := [_]) dX7_treats_86 mm_X7_threshold wL_X7_77 ⟨by decide, by decide⟩ hM.1.1 hM.1.2 rfl rfl (Nat.le_of_ble_eq_true rfl) (Nat.zero_le _) (Nat.zero_le _) (m_X7_threshold (cc := cc) hM hcc ⟨rfl, ?_⟩)
      refine k_istore (lv' := [(7, _), (4, _), (5, _), (6, _), (0, _), (3, _)]) dX7_treats_89 (by decide) rfl ?_
      refine k_iload_n 3 dX7_treats_91 rfl rfl ?_
      refine k_iload dX7_treats_92 rfl ?_
      refine k_icmple 101 dX7_treats_94 (by decide) (fun h94 => ?_) (fun h94 => ?_)
      · refine k_iconst (0) dX7_treats_101 (by decide) ?_
        refine k_istore (lv' := [(6, _), (7, _), (4, _), (5, _), (0, _), (3, _)]) dX7_treats_102 (by decide) rfl ?_
        refine k_iload dX7_treats_104 rfl ?_
        refine k_iconst (1) dX7_treats_106 (by decide) ?_
        refine k_icmpne 124 dX7_treats_107 (by decide) (fun h107 => ?_) (fun h107 => ?_)
        · refine k_aload_n 0 dX7_treats_124 rfl rfl ?_
          refine k_iload dX7_treats_125 rfl ?_
          refine k_iload_n 3 dX7_treats_127 rfl rfl ?_
          refine k_invV (As := [_, _]) dX7_treats_128 mm_X7_rests wL_X7_85 ⟨by decide, by decide⟩ hM.1.1 hM.1.2 rfl rfl (Nat.le_of_ble_eq_true rfl) (Nat.zero_le _) (Nat.zero_le _) (m_X7_rests (cc := cc) hM hcc ⟨rfl, ?_⟩)
          refine k_re [5, 6, 0] (lv' := [(5, _), (6, _), (0, _)]) rfl ?_
          simp only [kg_ti, kg_tr2, kg_t4, if_pos h80, if_pos h94] at hQ
          first
            | exact cut131 _ _ (kg_kn_ok _ _ hcc hok9) ((kg_kn_lo _ _ _ (by omega)).trans h8) hQ
            | exact cut131 _ _ (kg_ok_of hok9 (kg_re_o _ _ hcc (Or.inr (by omega)))) ((kg_re_o _ _ hcc (Or.inl (by omega))).trans h8) hQ
        · exact absurd h107 (by decide)
      · refine k_iconst (1) dX7_treats_97 (by decide) ?_
        refine k_goto 102 dX7_treats_98 (by decide) ?_
        refine k_istore (lv' := [(6, _), (7, _), (4, _), (5, _), (0, _), (3, _)]) dX7_treats_102 (by decide) rfl ?_
        refine k_iload dX7_treats_104 rfl ?_
        refine k_iconst (1) dX7_treats_106 (by decide) ?_
        refine k_icmpne 124 dX7_treats_107 (by decide) (fun h107 => ?_) (fun h107 => ?_)
        · exact absurd rfl h107
        · refine k_aload_n 0 dX7_treats_110 rfl rfl ?_
          refine k_iload dX7_treats_111 rfl ?_
          refine k_iload dX7_treats_113 rfl ?_
          refine k_iload_n 3 dX7_treats_115 rfl rfl ?_
          refine k_iload dX7_treats_116 rfl ?_
          refine k_invV (As := [_, _, _, _]) dX7_treats_118 mm_X7_knocks wL_X7_81 ⟨by decide, by decide⟩ hM.1.1 hM.1.2 rfl rfl (Nat.le_of_ble_eq_true rfl) (Nat.zero_le _) (Nat.zero_le _) (m_X7_knocks (cc := cc) (cl := cl) hM hok9 hcc hcl hth9 ⟨rfl, ?_⟩)
          refine k_goto 131 dX7_treats_121 (by decide) ?_
          refine k_re [5, 6, 0] (lv' := [(5, _), (6, _), (0, _)]) rfl ?_
          simp only [kg_ti, kg_tr2, kg_t4, if_pos h80, if_neg h94] at hQ
          first
            | exact cut131 _ _ (kg_kn_ok _ _ hcc hok9) ((kg_kn_lo _ _ _ (by omega)).trans h8) hQ
            | exact cut131 _ _ (kg_ok_of hok9 (kg_re_o _ _ hcc (Or.inr (by omega)))) ((kg_re_o _ _ hcc (Or.inl (by omega))).trans h8) hQ
  refine k_aload_n 0 dX7_treats_0 rfl rfl ?_
  refine k_getfield dX7_treats_1 hc_X7 hM.1.1 hM.1.2 0 (by decide) wF_X7_7 rfl ?_
  refine k_bipush (9) dX7_treats_4 (by decide) ?_
  refine k_ialoadV (9) dX7_treats_6 hM.2.1.1 hM.2.1.2 (rfl) (⟨by omega, by decide⟩) (hfi) ?_
  refine k_aload_n 0 dX7_treats_7 rfl rfl ?_
  refine k_getfield dX7_treats_8 hc_X7 hM.1.1 hM.1.2 0 (by decide) wF_X7_7 rfl ?_
  refine k_bipush (8) dX7_treats_11 (by decide) ?_
  refine k_ialoadV (8) dX7_treats_13 hM.2.1.1 hM.2.1.2 (rfl) (⟨by omega, by decide⟩) (hm8) ?_
  refine k_irem dX7_treats_14 (nI_ne0 (by omega) (by omega)) ?_
  rw [kg_rem hfi31 hm]
  refine k_istore (lv' := [(4, _), (0, _), (1, _), (2, _), (3, _)]) dX7_treats_15 (by decide) rfl ?_
  refine k_iload_n 1 dX7_treats_17 rfl rfl ?_
  refine k_iload_n 2 dX7_treats_18 rfl rfl ?_
  refine k_invS (As := [_, _]) dX7_treats_19 mm_X7_cellOf wL_X7_57 ⟨by decide, by decide⟩ rfl rfl (Nat.le_of_ble_eq_true rfl) (Nat.zero_le _) (Nat.zero_le _) (m_X7_cellOf ⟨rfl, ?_⟩)
  rw [hce]
  refine k_istore (lv' := [(5, _), (4, _), (0, _), (1, _), (2, _), (3, _)]) dX7_treats_22 (by decide) rfl ?_
  refine k_iconst (2) dX7_treats_24 (by decide) ?_
  refine k_istore (lv' := [(6, _), (5, _), (4, _), (0, _), (1, _), (2, _), (3, _)]) dX7_treats_25 (by decide) rfl ?_
  refine k_aload_n 0 dX7_treats_27 rfl rfl ?_
  refine k_iload_n 3 dX7_treats_28 rfl rfl ?_
  refine k_invV (As := [_]) dX7_treats_29 mm_X7_senses wL_X7_74 ⟨by decide, by decide⟩ hM.1.1 hM.1.2 rfl rfl (Nat.le_of_ble_eq_true rfl) (Nat.zero_le _) (Nat.zero_le _) (m_X7_senses hM hok ⟨rfl, ?_⟩)
  refine k_aload_n 0 dX7_treats_32 rfl rfl ?_
  refine k_getfield dX7_treats_33 hc_X7 hM.1.1 hM.1.2 0 (by decide) wF_X7_7 rfl ?_
  refine k_bipush (15) dX7_treats_36 (by decide) ?_
  refine k_iload dX7_treats_38 rfl ?_
  refine k_aload_n 0 dX7_treats_40 rfl rfl ?_
  refine k_getfield dX7_treats_41 hc_X7 hM.1.1 hM.1.2 0 (by decide) wF_X7_7 rfl ?_
  refine k_bipush (16) dX7_treats_44 (by decide) ?_
  refine k_ialoadN (16) dX7_treats_46 hM.2.1.1 hM.2.1.2 (rfl) (⟨by omega, by decide⟩) ?_
  refine k_icmpne 62 dX7_treats_47 (by decide) (fun h47 => ?_) (fun h47 => ?_)
  · refine k_iconst (0) dX7_treats_62 (by decide) ?_
    refine k_iastoreN (15) dX7_treats_63 hM.2.1.1 hM.2.1.2 (rfl) (⟨by omega, by decide⟩) ?_
    refine k_aload_n 0 dX7_treats_64 rfl rfl ?_
    refine k_getfield dX7_treats_65 hc_X7 hM.1.1 hM.1.2 0 (by decide) wF_X7_7 rfl ?_
    refine k_bipush (16) dX7_treats_68 (by decide) ?_
    refine k_iload dX7_treats_70 rfl ?_
    refine k_iastoreN (16) dX7_treats_72 hM.2.1.1 hM.2.1.2 (rfl) (⟨by omega, by decide⟩) ?_
    refine k_re [4, 5, 6, 0, 3] (lv' := [(4, _), (5, _), (6, _), (0, _), (3, _)]) rfl ?_
    rw [kg_t3] at hth
    rw [kg_t3] at hQ
    simp only [if_neg h47] at hth hQ
    exact cut73 (fi % m) _ (by have := Nat.mod_lt fi (show 0 < m from hm.1); omega) (kg_ok_of (kg_sen_ok e hok) (by rw [kn_upk (by omega), kn_upk (by omega)])) (by rw [kn_upk (by omega), kn_upk (by omega), kg_sen_lo e (by omega)]; exact hm8) hth hQ
  · refine k_aload_n 0 dX7_treats_50 rfl rfl ?_
    refine k_getfield dX7_treats_51 hc_X7 hM.1.1 hM.1.2 0 (by decide) wF_X7_7 rfl ?_
    refine k_bipush (15) dX7_treats_54 (by decide) ?_
    refine k_ialoadN (15) dX7_treats_56 hM.2.1.1 hM.2.1.2 (rfl) (⟨by omega, by decide⟩) ?_
    refine k_iconst (1) dX7_treats_57 (by decide) ?_
    refine k_iadd dX7_treats_58 ?_
    refine k_goto 63 dX7_treats_59 (by decide) ?_
    refine k_iastoreN (15) dX7_treats_63 hM.2.1.1 hM.2.1.2 (rfl) (⟨by omega, by decide⟩) ?_
    refine k_aload_n 0 dX7_treats_64 rfl rfl ?_
    refine k_getfield dX7_treats_65 hc_X7 hM.1.1 hM.1.2 0 (by decide) wF_X7_7 rfl ?_
    refine k_bipush (16) dX7_treats_68 (by decide) ?_
    refine k_iload dX7_treats_70 rfl ?_
    refine k_iastoreN (16) dX7_treats_72 hM.2.1.1 hM.2.1.2 (rfl) (⟨by omega, by decide⟩) ?_
    refine k_re [4, 5, 6, 0, 3] (lv' := [(4, _), (5, _), (6, _), (0, _), (3, _)]) rfl ?_
    rw [kg_t3] at hth
    rw [kg_t3] at hQ
    simp only [if_pos h47] at hth hQ
    exact cut73 (fi % m) _ (by have := Nat.mod_lt fi (show 0 < m from hm.1); omega) (kg_ok_of (kg_sen_ok e hok) (by rw [kn_upk (by omega), kn_upk (by omega)])) (by rw [kn_upk (by omega), kn_upk (by omega), kg_sen_lo e (by omega)]; exact hm8) hth hQ

set_option maxRecDepth 100000 in
set_option maxHeartbeats 4000000 in
theorem m_X7_fires {X : kn_X} {σ : kn_S} {τ : kn_T} {z : kn_Z} {c n : Nat} {Q : kn_Q} {m cl : Nat} {x y w : Int32} (hM : kn_isM z) (hP : kg_fp σ m cl x y w) (hce : kf_cell x y = nI cl) (hcl : cl < 24) (hQ : Q (.inl (some (.int (kg_fa σ m cl x y w)))) (kg_fs σ m cl x y w) τ z) : kn_Ev X MX7_fires [.ref 128, .int x, .int y, .int w] σ τ z c n Q := by
  have hP9 := hP
  rw [kg_fp] at hP9
  obtain ⟨⟨hm8, hm⟩, hok, ⟨fi, hfi31, hfi⟩, hth⟩ := hP
  have hcc9 : kg_cc (kg_rn σ) m = fi % m := by rw [kg_cc, hfi, nI_clamp hfi31]
  rw [kg_fe, kg_ov, hcc9] at hP9
  rw [kg_fa, kg_fs, kg_fe, kg_ov, hcc9] at hQ
  have hmod : fi % m < 8 := by have := Nat.mod_lt fi (show 0 < m from hm.1); omega
  refine kn_entry (by decide +kernel) rfl (Nat.le_of_ble_eq_true rfl) ?_
  show kn_Go X MX7_fires 0 [(0, .ref 128), (1, .int x), (2, .int y), (3, .int w)] [] _ _ _ _ _ _
  refine k_aload_n 0 dX7_fires_0 rfl rfl ?_
  refine k_getfield dX7_fires_1 hc_X7 hM.1.1 hM.1.2 0 (by decide) wF_X7_7 rfl ?_
  refine k_bipush (10) dX7_fires_4 (by decide) ?_
  refine k_ldc2 dX7_fires_6 wK_X7_94 ?_
  refine k_aload_n 0 dX7_fires_9 rfl rfl ?_
  refine k_getfield dX7_fires_10 hc_X7 hM.1.1 hM.1.2 0 (by decide) wF_X7_7 rfl ?_
  refine k_bipush (10) dX7_fires_13 (by decide) ?_
  refine k_ialoadN (10) dX7_fires_15 hM.2.1.1 hM.2.1.2 (rfl) (⟨by omega, by decide⟩) ?_
  refine k_i2l dX7_fires_16 ?_
  refine k_lmul dX7_fires_17 ?_
  refine k_ldc2 dX7_fires_18 wK_X7_96 ?_
  refine k_ladd dX7_fires_21 ?_
  refine k_ldc2 dX7_fires_22 wK_X7_98 ?_
  refine k_lrem dX7_fires_25 (by decide) ?_
  refine k_l2i dX7_fires_26 ?_
  refine k_iastoreN (10) dX7_fires_27 hM.2.1.1 hM.2.1.2 (rfl) (⟨by omega, by decide⟩) ?_
  show kn_Go X MX7_fires 28 _ [] (kg_rn σ) τ z _ _ Q
  refine k_aload_n 0 dX7_fires_28 rfl rfl ?_
  refine k_aload_n 0 dX7_fires_29 rfl rfl ?_
  refine k_getfield dX7_fires_30 hc_X7 hM.1.1 hM.1.2 0 (by decide) wF_X7_7 rfl ?_
  refine k_bipush (9) dX7_fires_33 (by decide) ?_
  refine k_ialoadV (9) dX7_fires_35 hM.2.1.1 hM.2.1.2 (rfl) (⟨by omega, by decide⟩) (hfi) ?_
  refine k_aload_n 0 dX7_fires_36 rfl rfl ?_
  refine k_getfield dX7_fires_37 hc_X7 hM.1.1 hM.1.2 0 (by decide) wF_X7_7 rfl ?_
  refine k_bipush (8) dX7_fires_40 (by decide) ?_
  refine k_ialoadV (8) dX7_fires_42 hM.2.1.1 hM.2.1.2 (rfl) (⟨by omega, by decide⟩) (hm8) ?_
  refine k_irem dX7_fires_43 (nI_ne0 (by omega) (by omega)) ?_
  rw [kg_rem hfi31 hm]
  refine k_iload_n 1 dX7_fires_44 rfl rfl ?_
  refine k_iload_n 2 dX7_fires_45 rfl rfl ?_
  refine k_invV (As := [_, _, _]) dX7_fires_46 mm_X7_advance wL_X7_100 ⟨by decide, by decide⟩ hM.1.1 hM.1.2 rfl rfl (Nat.le_of_ble_eq_true rfl) (Nat.zero_le _) (Nat.zero_le _) (m_X7_advance (cc := fi % m) (cl := cl) hM hmod hcl hce ⟨rfl, ?_⟩)
  refine k_iload_n 1 dX7_fires_49 rfl rfl ?_
  refine k_iload_n 2 dX7_fires_50 rfl rfl ?_
  refine k_iload_n 3 dX7_fires_51 rfl rfl ?_
  refine k_invS (As := [_, _, _]) dX7_fires_52 mm_X7_knockLimit wL_X7_104 ⟨by decide, by decide⟩ rfl rfl (Nat.le_of_ble_eq_true rfl) (Nat.zero_le _) (Nat.zero_le _) (m_X7_knockLimit ⟨rfl, ?_⟩)
  refine k_isub dX7_fires_55 ?_
  refine k_istore (lv' := [(4, _), (0, _), (1, _), (2, _), (3, _)]) dX7_fires_56 (by decide) rfl ?_
  refine k_iload_n 1 dX7_fires_58 rfl rfl ?_
  refine k_bipush (20) dX7_fires_59 (by decide) ?_
  refine k_idiv dX7_fires_61 (by decide) ?_
  refine k_iload_n 2 dX7_fires_62 rfl rfl ?_
  refine k_iadd dX7_fires_63 ?_
  refine k_aload_n 0 dX7_fires_64 rfl rfl ?_
  refine k_getfield dX7_fires_65 hc_X7 hM.1.1 hM.1.2 0 (by decide) wF_X7_7 rfl ?_
  refine k_bipush (10) dX7_fires_68 (by decide) ?_
  refine k_ialoadN (10) dX7_fires_70 hM.2.1.1 hM.2.1.2 (rfl) (⟨by omega, by decide⟩) ?_
  refine k_ldc dX7_fires_71 wK_X7_107 ?_
  refine k_idiv dX7_fires_73 (by decide) ?_
  refine k_bipush (40) dX7_fires_74 (by decide) ?_
  refine k_irem dX7_fires_76 (by decide) ?_
  refine k_iadd dX7_fires_77 ?_
  refine k_bipush (12) dX7_fires_78 (by decide) ?_
  refine k_iload dX7_fires_80 rfl ?_
  refine k_ifle 90 dX7_fires_82 (by decide) (fun h82 => ?_) (fun h82 => ?_)
  · refine k_iconst (0) dX7_fires_90 (by decide) ?_
    refine k_imul dX7_fires_91 ?_
    refine k_iadd dX7_fires_92 ?_
    refine k_sipush (20000) dX7_fires_93 (by decide) ?_
    refine k_invS (As := [_, _]) dX7_fires_96 mm_X7_lesser wL_X7_53 ⟨by decide, by decide⟩ rfl rfl (Nat.le_of_ble_eq_true rfl) (Nat.zero_le _) (Nat.zero_le _) (m_X7_lesser ⟨rfl, ?_⟩)
    refine k_istore (lv' := [(5, _), (4, _), (0, _), (1, _), (2, _), (3, _)]) dX7_fires_99 (by decide) rfl ?_
    refine k_aload_n 0 dX7_fires_101 rfl rfl ?_
    refine k_iload_n 1 dX7_fires_102 rfl rfl ?_
    refine k_iload_n 2 dX7_fires_103 rfl rfl ?_
    refine k_aload_n 0 dX7_fires_104 rfl rfl ?_
    refine k_getfield dX7_fires_105 hc_X7 hM.1.1 hM.1.2 0 (by decide) wF_X7_7 rfl ?_
    refine k_bipush (11) dX7_fires_108 (by decide) ?_
    refine k_ialoadN (11) dX7_fires_110 hM.2.1.1 hM.2.1.2 (rfl) (⟨by omega, by decide⟩) ?_
    refine k_iconst (1) dX7_fires_111 (by decide) ?_
    refine k_icmpne 119 dX7_fires_112 (by decide) (fun h112 => ?_) (fun h112 => ?_)
    · refine k_iload dX7_fires_119 rfl ?_
      refine k_invV (As := [_, _, _]) dX7_fires_121 mm_X7_treats wL_X7_108 ⟨by decide, by decide⟩ hM.1.1 hM.1.2 rfl rfl (Nat.le_of_ble_eq_true rfl) (Nat.zero_le _) (Nat.zero_le _) (m_X7_treats (m := m) (cl := cl) hM (by simp only [if_pos h82, if_neg h112] at hP9; exact hP9) hce hcl ⟨rfl, ?_⟩)
      refine k_iret dX7_fires_124 rfl (rfl) ?_
      simp only [if_pos h82, if_neg h112] at hQ
      exact hQ
    · refine k_iconst (0) dX7_fires_115 (by decide) ?_
      refine k_goto 121 dX7_fires_116 (by decide) ?_
      refine k_invV (As := [_, _, _]) dX7_fires_121 mm_X7_treats wL_X7_108 ⟨by decide, by decide⟩ hM.1.1 hM.1.2 rfl rfl (Nat.le_of_ble_eq_true rfl) (Nat.zero_le _) (Nat.zero_le _) (m_X7_treats (m := m) (cl := cl) hM (by simp only [if_pos h82, if_pos h112] at hP9; exact hP9) hce hcl ⟨rfl, ?_⟩)
      refine k_iret dX7_fires_124 rfl (rfl) ?_
      simp only [if_pos h82, if_pos h112] at hQ
      exact hQ
  · refine k_iload dX7_fires_85 rfl ?_
    refine k_goto 91 dX7_fires_87 (by decide) ?_
    refine k_imul dX7_fires_91 ?_
    refine k_iadd dX7_fires_92 ?_
    refine k_sipush (20000) dX7_fires_93 (by decide) ?_
    refine k_invS (As := [_, _]) dX7_fires_96 mm_X7_lesser wL_X7_53 ⟨by decide, by decide⟩ rfl rfl (Nat.le_of_ble_eq_true rfl) (Nat.zero_le _) (Nat.zero_le _) (m_X7_lesser ⟨rfl, ?_⟩)
    refine k_istore (lv' := [(5, _), (4, _), (0, _), (1, _), (2, _), (3, _)]) dX7_fires_99 (by decide) rfl ?_
    refine k_aload_n 0 dX7_fires_101 rfl rfl ?_
    refine k_iload_n 1 dX7_fires_102 rfl rfl ?_
    refine k_iload_n 2 dX7_fires_103 rfl rfl ?_
    refine k_aload_n 0 dX7_fires_104 rfl rfl ?_
    refine k_getfield dX7_fires_105 hc_X7 hM.1.1 hM.1.2 0 (by decide) wF_X7_7 rfl ?_
    refine k_bipush (11) dX7_fires_108 (by decide) ?_
    refine k_ialoadN (11) dX7_fires_110 hM.2.1.1 hM.2.1.2 (rfl) (⟨by omega, by decide⟩) ?_
    refine k_iconst (1) dX7_fires_111 (by decide) ?_
    refine k_icmpne 119 dX7_fires_112 (by decide) (fun h112 => ?_) (fun h112 => ?_)
    · refine k_iload dX7_fires_119 rfl ?_
      refine k_invV (As := [_, _, _]) dX7_fires_121 mm_X7_treats wL_X7_108 ⟨by decide, by decide⟩ hM.1.1 hM.1.2 rfl rfl (Nat.le_of_ble_eq_true rfl) (Nat.zero_le _) (Nat.zero_le _) (m_X7_treats (m := m) (cl := cl) hM (by simp only [if_neg h82, if_neg h112] at hP9; exact hP9) hce hcl ⟨rfl, ?_⟩)
      refine k_iret dX7_fires_124 rfl (rfl) ?_
      simp only [if_neg h82, if_neg h112] at hQ
      exact hQ
    · refine k_iconst (0) dX7_fires_115 (by decide) ?_
      refine k_goto 121 dX7_fires_116 (by decide) ?_
      refine k_invV (As := [_, _, _]) dX7_fires_121 mm_X7_treats wL_X7_108 ⟨by decide, by decide⟩ hM.1.1 hM.1.2 rfl rfl (Nat.le_of_ble_eq_true rfl) (Nat.zero_le _) (Nat.zero_le _) (m_X7_treats (m := m) (cl := cl) hM (by simp only [if_neg h82, if_pos h112] at hP9; exact hP9) hce hcl ⟨rfl, ?_⟩)
      refine k_iret dX7_fires_124 rfl (rfl) ?_
      simp only [if_neg h82, if_pos h112] at hQ
      exact hQ
