-- the model: the lowest octane
theorem kg_sh_ne (s : kn_S) {b' : Nat} (h : b' ≠ 129) : ∀ k, kg_sh s k b' = s b'
  | 0 => rfl
  | k + 1 => by
    show kn_up (kg_sh s k) 129 (74 + k) _ b' = s b'
    rw [kn_up_ne _ _ _ h, kg_sh_ne s h k]
theorem kg_logs_ne (s : kn_S) (k n : Int32) {b' : Nat} (h : b' ≠ 129) : kg_logs s k n b' = s b' := by
  unfold kg_logs
  split
  · dsimp only [kg_lw, kg_log0]
    rw [kn_up_ne _ _ _ h, kn_up_ne _ _ _ h, kn_up_ne _ _ _ h, kn_up_ne _ _ _ h, kn_up_ne _ _ _ h, kg_sh_ne s h]
  · dsimp only [kg_lw]
    rw [kn_up_ne _ _ _ h, kn_up_ne _ _ _ h, kn_up_ne _ _ _ h, kn_up_ne _ _ _ h]
theorem kg_s3_ne (s : kn_S) {b' : Nat} (h : b' ≠ 129) : kg_s3 s b' = s b' := by
  unfold kg_s3
  split
  · split
    · rfl
    · rw [kg_logs_ne _ _ _ h, kn_up_ne _ _ _ h]
  · rfl
theorem kg_sen_ne (s : kn_S) (e : Int32) {b' : Nat} (h : b' ≠ 129) : kg_sen s e b' = s b' := by
  have h1 : kg_s1 s e b' = s b' := by
    unfold kg_s1
    split
    · rw [kn_up_ne _ _ _ h, kn_up_ne _ _ _ h]
    · rw [kn_up_ne _ _ _ h, kn_up_ne _ _ _ h]
  unfold kg_sen kg_s2
  split
  · split
    · rw [kg_s3_ne _ h, h1]
    · rw [kg_logs_ne _ _ _ h, kn_up_ne _ _ _ h, h1]
  · rw [kg_s3_ne _ h, h1]
theorem kg_kn_ne (s : kn_S) (cc cl : Nat) (e t : Int32) {b' : Nat} (h : b' ≠ 129) : kg_kn s cc cl e t b' = s b' := by
  dsimp only [kg_kn]
  rw [kg_logs_ne _ _ _ h, kn_up_ne _ _ _ h, kn_up_ne _ _ _ h, kn_up_ne _ _ _ h]
theorem kg_re_ne (s : kn_S) (cc : Nat) (e : Int32) {b' : Nat} (h : b' ≠ 129) : kg_re s cc e b' = s b' := by
  dsimp only [kg_re]
  split
  · rw [kn_up_ne _ _ _ h, kn_up_ne _ _ _ h]
  · rw [kn_up_ne _ _ _ h, kn_up_ne _ _ _ h, kn_up_ne _ _ _ h, kn_up_ne _ _ _ h]
theorem kg_ev_ne (s : kn_S) (l : Int32) {b' : Nat} (h : b' ≠ 129) : ∀ j, kg_ev s l j b' = s b'
  | 0 => rfl
  | j + 1 => by
    show kn_up (kg_ev s l j) 129 (17 + j) _ b' = s b'
    rw [kn_up_ne _ _ _ h, kg_ev_ne s l h j]
theorem kg_dec_ne (s : kn_S) {b' : Nat} (h : b' ≠ 129) : ∀ j, kg_dec s j b' = s b'
  | 0 => rfl
  | j + 1 => by
    show kn_up (kg_dec s j) 129 (17 + j) _ b' = s b'
    rw [kn_up_ne _ _ _ h, kg_dec_ne s h j]
theorem kg_le_ne (s : kn_S) (m cl : Nat) {b' : Nat} (h : b' ≠ 129) : kg_le s m cl b' = s b' := by
  have hL : ∀ mean, kg_leL s cl mean b' = s b' := by
    intro mean
    unfold kg_leL
    split
    · rfl
    split
    · rfl
    · rw [kg_logs_ne _ _ _ h, kn_up_ne _ _ _ h]
  unfold kg_le
  split
  · exact hL _
  split
  · exact hL _
  · unfold kg_leU
    rw [kg_logs_ne _ _ _ h, kg_dec_ne _ h, kn_up_ne _ _ _ h]
theorem kg_tr_ne (s : kn_S) (m cl : Nat) (e : Int32) {b' : Nat} (h : b' ≠ 129) : kg_tr s m cl e b' = s b' := by
  have h3 : kg_t3 s cl e b' = s b' := by
    unfold kg_t3
    rw [kn_up_ne _ _ _ h, kn_up_ne _ _ _ h, kg_sen_ne _ _ h]
  have h5 : ∀ t : kn_S, kg_t5 t m cl b' = t b' := by
    intro t
    unfold kg_t5
    split
    · rfl
    split
    · exact kg_le_ne t m cl h
    · rfl
  have h4 : ∀ (t : kn_S) (cc : Nat), kg_t4 t cc cl e b' = t b' := by
    intro t cc
    unfold kg_t4
    split
    · exact kg_re_ne t cc e h
    · exact kg_kn_ne t cc cl e _ h
  unfold kg_tr kg_tr2
  split
  · rw [kg_t6, kn_up_ne _ _ _ h, h5, kg_evens, kg_ev_ne _ _ h, h4, h3]
  · rw [kg_t6, kn_up_ne _ _ _ h, h3]
theorem kg_fs_ne (s : kn_S) (m cl : Nat) (x y w : Int32) {b' : Nat} (h : b' ≠ 129) : kg_fs s m cl x y w b' = s b' := by
  unfold kg_fs
  rw [kg_tr_ne _ _ _ _ h, kg_rn, kn_up_ne _ _ _ h]
theorem kg_it_ne (s : kn_S) (m cl : Nat) (x y w : Int32) {b' : Nat} (h : b' ≠ 129) : ∀ j, kg_it s m cl x y w j b' = s b'
  | 0 => rfl
  | j + 1 => by
    show kg_fs (kg_it s m cl x y w j) m cl x y w b' = s b'
    rw [kg_fs_ne _ _ _ _ _ _ h, kg_it_ne s m cl x y w h j]
theorem kg_cpy_at (s : kn_S) {b d b2 d2 : Nat} (h : b2 ≠ b) {k : Nat} : ∀ n, k < n → kg_cpy s b d b2 d2 n b (d + k) = s b2 (d2 + k)
  | 0, hk => absurd hk (by omega)
  | n + 1, hk => by
    show kn_up (kg_cpy s b d b2 d2 n) b (d + n) (kg_cpy s b d b2 d2 n b2 (d2 + n)) b (d + k) = _
    by_cases e : k = n
    · subst e
      unfold kn_up
      rw [if_pos ⟨rfl, rfl⟩, kg_cpy_ne s h]
    · rw [kn_upk (by omega)]
      exact kg_cpy_at s h n (by omega)
/-- firings until one knocks: how many were quiet, and the row behind them -/
def kg_lL (s : kn_S) (m cl : Nat) (x y w : Int32) : Nat → Nat → Nat × kn_S
  | 0, j => (j, kg_it s m cl x y w j)
  | r + 1, j => if kg_fa (kg_it s m cl x y w j) m cl x y w = 1 then (j, kg_it s m cl x y w (j + 1)) else kg_lL s m cl x y w r (j + 1)
def kg_lo (m cl : Nat) (x y : Int32) (cnt : Nat) : Nat → Nat → kn_S → Int32 × kn_S
  | 0, _, s => (-1, s)
  | r + 1, oc, s => if (kg_lL s m cl x y (nI oc) cnt 0).1 = cnt then (nI oc, kg_bk (kg_lL s m cl x y (nI oc) cnt 0).2) else kg_lo m cl x y cnt r (oc + 1) (kg_bk (kg_lL s m cl x y (nI oc) cnt 0).2)
theorem kg_lL_ne (s : kn_S) (m cl : Nat) (x y w : Int32) {b' : Nat} (h : b' ≠ 129) : ∀ r j, (kg_lL s m cl x y w r j).2 b' = s b'
  | 0, j => kg_it_ne s m cl x y w h j
  | r + 1, j => by
    unfold kg_lL
    split
    · exact kg_it_ne s m cl x y w h (j + 1)
    · exact kg_lL_ne s m cl x y w h r (j + 1)
theorem kg_lL_le (s : kn_S) (m cl : Nat) (x y w : Int32) : ∀ r j, (kg_lL s m cl x y w r j).1 ≤ j + r
  | 0, j => Nat.le_refl _
  | r + 1, j => by
    unfold kg_lL
    split
    · show j ≤ _; omega
    · have := kg_lL_le s m cl x y w r (j + 1); omega
/-- the row is as it was laid aside -/
def kg_sm (s s0 : kn_S) : Prop := (∀ k, k < 254 → s 129 k = s0 129 k) ∧ (∀ k, k < 254 → s 131 k = s0 129 k)
theorem kg_as_sm (s : kn_S) : kg_sm (kg_as s) s := by
  refine ⟨fun k hk => ?_, fun k hk => ?_⟩
  · show kg_cpy (kn_up s 128 4 0) 131 0 129 0 254 129 k = _
    rw [kg_cpy_ne _ (by decide), kn_up_ne _ _ _ (by decide)]
  · have h := kg_cpy_at (kn_up s 128 4 0) (b := 131) (d := 0) (b2 := 129) (d2 := 0) (k := k) (by decide) 254 hk
    rw [Nat.zero_add] at h
    show kg_cpy (kn_up s 128 4 0) 131 0 129 0 254 131 k = _
    rw [h, kn_up_ne _ _ _ (by decide)]
theorem kg_bk_sm {s t s0 : kn_S} (h : kg_sm s s0) (ht : t 131 = s 131) : kg_sm (kg_bk t) s0 := by
  have e : ∀ k, k < 254 → kg_bk t 129 k = s0 129 k := by
    intro k hk
    have h9 := kg_cpy_at t (b := 129) (d := 0) (b2 := 131) (d2 := 0) (k := k) (by decide) 254 hk
    rw [Nat.zero_add] at h9
    show kg_cpy t 129 0 131 0 254 129 k = _
    rw [h9, ht]
    exact h.2 k hk
  refine ⟨e, fun k hk => ?_⟩
  show kg_cpy t 129 0 131 0 254 131 k = _
  rw [kg_cpy_ne _ (by decide), ht]
  exact h.2 k hk

theorem kg_w100 {v : Int32} (h : ¬ kf_within v 1 100 = 0) : ∃ j, j ≤ 100 ∧ v = nI j := by
  unfold kf_within at h
  by_cases h1 : v < 1
  · rw [if_pos h1] at h; exact absurd rfl h
  · rw [if_neg h1] at h
    by_cases h2 : 100 < v
    · rw [if_pos h2] at h; exact absurd rfl h
    · have h3 : ¬ v < 0 := by intro h9; exact h1 (by rw [Int32.lt_iff_toInt_lt] at h9 ⊢; have : (1 : Int32).toInt = 1 := rfl; have : (0 : Int32).toInt = 0 := rfl; omega)
      obtain ⟨j, hj, rfl⟩ := nI_of h3
      refine ⟨j, ?_, rfl⟩
      rcases Nat.lt_or_ge 100 j with q | q
      · exact absurd (show nI 100 < nI j from nI_lt q hj) h2
      · exact q
set_option maxRecDepth 100000 in
set_option maxHeartbeats 4000000 in
theorem m_X7_lowestOctane {X : kn_X} {σ : kn_S} {τ : kn_T} {z : kn_Z} {c n : Nat} {Q : kn_Q} {m cl : Nat} {x y v : Int32} (hM : kn_isM z) (hce : ¬ kf_isOp x y = 0 → kf_cell x y = nI cl ∧ cl < 24) (hF : ∀ cnt, v = nI cnt → cnt ≤ 100 → ¬ kf_isOp x y = 0 → ¬ kf_within v 1 100 = 0 → ∀ (s9 : kn_S) (oc j : Nat), kg_sm s9 σ → 80 ≤ oc → oc ≤ 110 → j < cnt → kg_fp (kg_it s9 m cl x y (nI oc) j) m cl x y (nI oc)) (hQ : ∀ cnt, v = nI cnt → cnt ≤ 100 → ¬ kf_isOp x y = 0 → ¬ kf_within v 1 100 = 0 → Q (.inl (some (.int (kg_lo m cl x y cnt 31 80 (kg_as σ)).1))) (kg_lo m cl x y cnt 31 80 (kg_as σ)).2 τ z) (hN : (kf_isOp x y = 0 ∨ kf_within v 1 100 = 0) → Q (.inl (some (.int (0)))) (kn_up σ 128 4 1) τ z) : kn_Ev X MX7_lowestOctane [.ref 128, .int x, .int y, .int v] σ τ z c n Q := by
  have ot43 : ∀ (o t u : Nat) (s9 : kn_S), t < 2 ^ 31 → Q (.inl (some (.int (nI t)))) s9 τ z → kn_Go X MX7_lowestOctane 43 [(5, .int (nI o)), (4, .int (nI t)), (0, .ref 128), (1, .int x), (2, .int y), (3, .int (nI u))] [] s9 τ z c n Q := by
    intro o t u s9 ht hQ
    have e : kn_Go X MX7_lowestOctane 107 [(5, .int (nI o)), (4, .int (nI t)), (0, .ref 128), (1, .int x), (2, .int y), (3, .int (nI u))] [] s9 τ z c n Q := by
      refine k_iload dX7_lowestOctane_107 rfl ?_
      refine k_iret dX7_lowestOctane_109 rfl (rfl) ?_
      exact hQ
    refine k_iload dX7_lowestOctane_43 rfl ?_
    refine k_bipush (110) dX7_lowestOctane_45 (by decide) ?_
    refine k_icmpgt 107 dX7_lowestOctane_47 (by decide) (fun _ => e) (fun _ => ?_)
    refine k_iload dX7_lowestOctane_50 rfl ?_
    refine k_iconst (-1) dX7_lowestOctane_52 (by decide) ?_
    refine k_icmpne 107 dX7_lowestOctane_53 (by decide) (fun _ => e) (fun h => ?_)
    exfalso
    have h1 := congrArg Int32.toInt h
    rw [nI_toInt ht] at h1
    have h2 : (-1 : Int32).toInt = -1 := rfl
    omega
  refine kn_entry (by decide +kernel) rfl (Nat.le_of_ble_eq_true rfl) ?_
  show kn_Go X MX7_lowestOctane 0 [(0, .ref 128), (1, .int x), (2, .int y), (3, .int v)] [] _ _ _ _ _ _
  have cut107 : ∀ (its : Int32) (s9 : kn_S), Q (.inl (some (.int its))) s9 τ z → kn_Go X MX7_lowestOctane 107 [(4, .int its)] [] s9 τ z c n Q := by
    intro its s9 hQ
    refine k_iload dX7_lowestOctane_107 rfl ?_
    refine k_iret dX7_lowestOctane_109 rfl (rfl) ?_
    exact hQ
  have lp59 : ∀ r9 : Nat, ∀ (j oc cnt : Nat) (s9 : kn_S), j + r9 = cnt → cnt ≤ 100 → (kf_cell x y = nI cl ∧ cl < 24) → (∀ j, j < cnt → kg_fp (kg_it s9 m cl x y (nI oc) j) m cl x y (nI oc)) → kn_Go X MX7_lowestOctane 83 [(6, .int (nI (kg_lL s9 m cl x y (nI oc) r9 j).1)), (5, .int (nI oc)), (0, .ref 128), (1, .int x), (2, .int y), (3, .int (nI cnt))] [] (kg_lL s9 m cl x y (nI oc) r9 j).2 τ z c n Q → kn_Go X MX7_lowestOctane 59 [(6, .int (nI j)), (5, .int (nI oc)), (0, .ref 128), (1, .int x), (2, .int y), (3, .int (nI cnt))] [] (kg_it s9 m cl x y (nI oc) j) τ z c n Q := by
    intro r9
    induction r9 with
    | zero =>
      intro j oc cnt s9 hj hcnt hc hF9 hk
      obtain rfl : j = cnt := by omega
      refine k_iload dX7_lowestOctane_59 rfl ?_
      refine k_iload_n 3 dX7_lowestOctane_61 rfl rfl ?_
      refine k_icmpge 83 dX7_lowestOctane_62 (by decide) (fun h62 => ?_) (fun h62 => ?_)
      · first
          | (rw [kg_lL, if_pos h74] at hk; rw [kg_it] at hk; exact hk)
          | (rw [kg_lL] at hk; exact hk)
      · exact absurd (nI_le (Nat.le_refl _) (by omega)) h62
    | succ r9 ih =>
      intro j oc cnt s9 hj hcnt hc hF9 hk
      refine k_iload dX7_lowestOctane_59 rfl ?_
      refine k_iload_n 3 dX7_lowestOctane_61 rfl rfl ?_
      refine k_icmpge 83 dX7_lowestOctane_62 (by decide) (fun h62 => ?_) (fun h62 => ?_)
      · exact absurd h62 (nI_ge (by omega) (by omega))
      · refine k_aload_n 0 dX7_lowestOctane_65 rfl rfl ?_
        refine k_iload_n 1 dX7_lowestOctane_66 rfl rfl ?_
        refine k_iload_n 2 dX7_lowestOctane_67 rfl rfl ?_
        refine k_iload dX7_lowestOctane_68 rfl ?_
        refine k_invV (As := [_, _, _]) dX7_lowestOctane_70 mm_X7_fires wL_X7_117 ⟨by decide, by decide⟩ hM.1.1 hM.1.2 rfl rfl (Nat.le_of_ble_eq_true rfl) (Nat.zero_le _) (Nat.zero_le _) (m_X7_fires (m := m) (cl := cl) hM (hF9 j (by omega)) hc.1 hc.2 ⟨rfl, ?_⟩)
        refine k_iconst (1) dX7_lowestOctane_73 (by decide) ?_
        refine k_icmpeq 83 dX7_lowestOctane_74 (by decide) (fun h74 => ?_) (fun h74 => ?_)
        · first
            | (rw [kg_lL, if_pos h74] at hk; rw [kg_it] at hk; exact hk)
            | (rw [kg_lL] at hk; exact hk)
        · refine k_iinc (nI (j + 1)) (lv' := [(6, _), (5, _), (0, _), (1, _), (2, _), (3, _)]) dX7_lowestOctane_77 rfl (kn_inc j) (by decide) rfl ?_
          refine k_goto 59 dX7_lowestOctane_80 (by decide) ?_
          rw [kg_lL, if_neg h74] at hk
          exact ih (j + 1) oc cnt s9 (by omega) hcnt hc hF9 hk
  have lp43 : ∀ r9 : Nat, ∀ (oc cnt : Nat) (s9 : kn_S), 80 ≤ oc → oc + r9 = 111 → cnt ≤ 100 → kg_sm s9 σ → (kf_cell x y = nI cl ∧ cl < 24) → (∀ (s9 : kn_S) (oc j : Nat), kg_sm s9 σ → 80 ≤ oc → oc ≤ 110 → j < cnt → kg_fp (kg_it s9 m cl x y (nI oc) j) m cl x y (nI oc)) → Q (.inl (some (.int (kg_lo m cl x y cnt r9 oc s9).1))) (kg_lo m cl x y cnt r9 oc s9).2 τ z → kn_Go X MX7_lowestOctane 43 [(5, .int (nI oc)), (4, .int (-1)), (0, .ref 128), (1, .int x), (2, .int y), (3, .int (nI cnt))] [] s9 τ z c n Q := by
    intro r9
    induction r9 with
    | zero =>
      intro oc cnt s9 h80 hoc hcnt hsm hc hF hQ
      refine k_iload dX7_lowestOctane_43 rfl ?_
      refine k_bipush (110) dX7_lowestOctane_45 (by decide) ?_
      refine k_icmpgt 107 dX7_lowestOctane_47 (by decide) (fun h47 => ?_) (fun h47 => ?_)
      · refine k_re [4] (lv' := [(4, _)]) rfl ?_
        exact cut107 _ _ hQ
      · exact absurd (show (110 : Int32) < nI oc from by rw [show oc = 111 by omega]; decide) h47
    | succ r9 ih =>
      intro oc cnt s9 h80 hoc hcnt hsm hc hF hQ
      refine k_iload dX7_lowestOctane_43 rfl ?_
      refine k_bipush (110) dX7_lowestOctane_45 (by decide) ?_
      refine k_icmpgt 107 dX7_lowestOctane_47 (by decide) (fun h47 => ?_) (fun h47 => ?_)
      · exact absurd h47 (show ¬ (nI 110) < nI oc from nI_nlt (by omega) (by omega))
      · refine k_iload dX7_lowestOctane_50 rfl ?_
        refine k_iconst (-1) dX7_lowestOctane_52 (by decide) ?_
        refine k_icmpne 107 dX7_lowestOctane_53 (by decide) (fun h53 => ?_) (fun h53 => ?_)
        · exact absurd rfl h53
        · refine k_iconst (0) dX7_lowestOctane_56 (by decide) ?_
          refine k_istore (lv' := [(6, _), (5, _), (4, _), (0, _), (1, _), (2, _), (3, _)]) dX7_lowestOctane_57 (by decide) rfl ?_
          refine k_re [6, 5, 0, 1, 2, 3] (lv' := [(6, _), (5, _), (0, _), (1, _), (2, _), (3, _)]) rfl ?_
          refine lp59 cnt 0 oc cnt s9 (Nat.zero_add _) hcnt hc (fun j hj => hF s9 oc j hsm h80 (by omega) hj) ?_
          refine k_iload dX7_lowestOctane_83 rfl ?_
          refine k_iload_n 3 dX7_lowestOctane_85 rfl rfl ?_
          refine k_icmpne 94 dX7_lowestOctane_86 (by decide) (fun h86 => ?_) (fun h86 => ?_)
          · have h86 : ¬ (kg_lL s9 m cl x y (nI oc) cnt 0).1 = cnt := fun q => h86 (by rw [q])
            refine k_iconst (-1) dX7_lowestOctane_94 (by decide) ?_
            refine k_istore (lv' := [(4, _), (6, _), (5, _), (0, _), (1, _), (2, _), (3, _)]) dX7_lowestOctane_95 (by decide) rfl ?_
            refine k_aload_n 0 dX7_lowestOctane_97 rfl rfl ?_
            refine k_invV (As := []) dX7_lowestOctane_98 mm_X7_takesBack wL_X7_139 ⟨by decide, by decide⟩ hM.1.1 hM.1.2 rfl rfl (Nat.le_of_ble_eq_true rfl) (Nat.zero_le _) (Nat.zero_le _) (m_X7_takesBack hM ⟨rfl, ?_⟩)
            refine k_iinc (nI (oc + 1)) (lv' := [(5, _), (4, _), (6, _), (0, _), (1, _), (2, _), (3, _)]) dX7_lowestOctane_101 rfl (kn_inc oc) (by decide) rfl ?_
            refine k_goto 43 dX7_lowestOctane_104 (by decide) ?_
            refine k_re [5, 4, 0, 1, 2, 3] (lv' := [(5, _), (4, _), (0, _), (1, _), (2, _), (3, _)]) rfl ?_
            rw [kg_lo, if_neg h86] at hQ
            first
              | exact ot43 (oc + 1) oc cnt _ (by omega) hQ
              | exact ih (oc + 1) cnt _ (by omega) (by omega) hcnt (kg_bk_sm hsm (kg_lL_ne s9 m cl x y (nI oc) (by decide) cnt 0)) hc hF hQ
          · have h86 : (kg_lL s9 m cl x y (nI oc) cnt 0).1 = cnt := (nI_eq (by have := kg_lL_le s9 m cl x y (nI oc) cnt 0; omega) (by omega)).mp h86
            refine k_iload dX7_lowestOctane_89 rfl ?_
            refine k_goto 95 dX7_lowestOctane_91 (by decide) ?_
            refine k_istore (lv' := [(4, _), (6, _), (5, _), (0, _), (1, _), (2, _), (3, _)]) dX7_lowestOctane_95 (by decide) rfl ?_
            refine k_aload_n 0 dX7_lowestOctane_97 rfl rfl ?_
            refine k_invV (As := []) dX7_lowestOctane_98 mm_X7_takesBack wL_X7_139 ⟨by decide, by decide⟩ hM.1.1 hM.1.2 rfl rfl (Nat.le_of_ble_eq_true rfl) (Nat.zero_le _) (Nat.zero_le _) (m_X7_takesBack hM ⟨rfl, ?_⟩)
            refine k_iinc (nI (oc + 1)) (lv' := [(5, _), (4, _), (6, _), (0, _), (1, _), (2, _), (3, _)]) dX7_lowestOctane_101 rfl (kn_inc oc) (by decide) rfl ?_
            refine k_goto 43 dX7_lowestOctane_104 (by decide) ?_
            refine k_re [5, 4, 0, 1, 2, 3] (lv' := [(5, _), (4, _), (0, _), (1, _), (2, _), (3, _)]) rfl ?_
            rw [kg_lo, if_pos h86] at hQ
            first
              | exact ot43 (oc + 1) oc cnt _ (by omega) hQ
              | exact ih (oc + 1) cnt _ (by omega) (by omega) hcnt (kg_bk_sm hsm (kg_lL_ne s9 m cl x y (nI oc) (by decide) cnt 0)) hc hF hQ
  refine k_aload_n 0 dX7_lowestOctane_0 rfl rfl ?_
  refine k_iload_n 1 dX7_lowestOctane_1 rfl rfl ?_
  refine k_iload_n 2 dX7_lowestOctane_2 rfl rfl ?_
  refine k_invS (As := [_, _]) dX7_lowestOctane_3 mm_X7_isPoint wL_X7_111 ⟨by decide, by decide⟩ rfl rfl (Nat.le_of_ble_eq_true rfl) (Nat.zero_le _) (Nat.zero_le _) (m_X7_isPoint ⟨rfl, ?_⟩)
  refine k_ifeq 23 dX7_lowestOctane_6 (by decide) (fun h6 => ?_) (fun h6 => ?_)
  · refine k_iconst (1) dX7_lowestOctane_23 (by decide) ?_
    refine k_invV (As := [_]) dX7_lowestOctane_24 mm_X7_refused wL_X7_34 ⟨by decide, by decide⟩ hM.1.1 hM.1.2 rfl rfl (Nat.le_of_ble_eq_true rfl) (Nat.zero_le _) (Nat.zero_le _) (m_X7_refused (r := 1) hM rfl ⟨rfl, ?_⟩)
    refine k_ifeq 32 dX7_lowestOctane_27 (by decide) (fun h27 => ?_) (fun h27 => ?_)
    · exact absurd h27 (by decide)
    · refine k_iconst (0) dX7_lowestOctane_30 (by decide) ?_
      refine k_iret dX7_lowestOctane_31 rfl (rfl) ?_
      first
        | exact hN (Or.inl (by assumption))
        | exact hN (Or.inr (by assumption))
  · refine k_iload_n 3 dX7_lowestOctane_9 rfl rfl ?_
    refine k_iconst (1) dX7_lowestOctane_10 (by decide) ?_
    refine k_bipush (100) dX7_lowestOctane_11 (by decide) ?_
    refine k_invS (As := [_, _, _]) dX7_lowestOctane_13 mm_X7_within wL_X7_38 ⟨by decide, by decide⟩ rfl rfl (Nat.le_of_ble_eq_true rfl) (Nat.zero_le _) (Nat.zero_le _) (m_X7_within ⟨rfl, ?_⟩)
    refine k_ifeq 23 dX7_lowestOctane_16 (by decide) (fun h16 => ?_) (fun h16 => ?_)
    · refine k_iconst (1) dX7_lowestOctane_23 (by decide) ?_
      refine k_invV (As := [_]) dX7_lowestOctane_24 mm_X7_refused wL_X7_34 ⟨by decide, by decide⟩ hM.1.1 hM.1.2 rfl rfl (Nat.le_of_ble_eq_true rfl) (Nat.zero_le _) (Nat.zero_le _) (m_X7_refused (r := 1) hM rfl ⟨rfl, ?_⟩)
      refine k_ifeq 32 dX7_lowestOctane_27 (by decide) (fun h27 => ?_) (fun h27 => ?_)
      · exact absurd h27 (by decide)
      · refine k_iconst (0) dX7_lowestOctane_30 (by decide) ?_
        refine k_iret dX7_lowestOctane_31 rfl (rfl) ?_
        first
          | exact hN (Or.inl (by assumption))
          | exact hN (Or.inr (by assumption))
    · refine k_iconst (0) dX7_lowestOctane_19 (by decide) ?_
      refine k_goto 24 dX7_lowestOctane_20 (by decide) ?_
      refine k_invV (As := [_]) dX7_lowestOctane_24 mm_X7_refused wL_X7_34 ⟨by decide, by decide⟩ hM.1.1 hM.1.2 rfl rfl (Nat.le_of_ble_eq_true rfl) (Nat.zero_le _) (Nat.zero_le _) (m_X7_refused (r := 0) hM rfl ⟨rfl, ?_⟩)
      refine k_ifeq 32 dX7_lowestOctane_27 (by decide) (fun h27 => ?_) (fun h27 => ?_)
      · refine k_aload_n 0 dX7_lowestOctane_32 rfl rfl ?_
        refine k_invV (As := []) dX7_lowestOctane_33 mm_X7_laysAside wL_X7_136 ⟨by decide, by decide⟩ hM.1.1 hM.1.2 rfl rfl (Nat.le_of_ble_eq_true rfl) (Nat.zero_le _) (Nat.zero_le _) (m_X7_laysAside hM ⟨rfl, ?_⟩)
        refine k_iconst (-1) dX7_lowestOctane_36 (by decide) ?_
        refine k_istore (lv' := [(4, _), (0, _), (1, _), (2, _), (3, _)]) dX7_lowestOctane_37 (by decide) rfl ?_
        refine k_bipush (80) dX7_lowestOctane_39 (by decide) ?_
        refine k_istore (lv' := [(5, _), (4, _), (0, _), (1, _), (2, _), (3, _)]) dX7_lowestOctane_41 (by decide) rfl ?_
        obtain ⟨cnt, hcnt, rfl⟩ : ∃ j, j ≤ 100 ∧ v = nI j := kg_w100 h16
        exact lp43 31 80 cnt _ (by omega) (by omega) hcnt (kg_as_sm σ) (hce h6) (hF cnt rfl hcnt h6 h16) (hQ cnt rfl hcnt h6 h16)
      · exact absurd rfl h27
