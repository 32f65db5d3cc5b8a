-- the model: what it tells
def kg_isN (n : Nat) (x : Int32) : Int32 := kf_within x 0 (nI n - 1)
theorem kg_isN_nI {n : Nat} {x : Int32} (hn : n < 2 ^ 31) (h : ¬ kg_isN n x = 0) : ∃ j, j < n ∧ x = nI j := by
  unfold kg_isN at h
  cases n with
  | zero =>
    exfalso
    unfold kf_within at h
    by_cases h1 : x < 0
    · rw [if_pos h1] at h; exact h rfl
    · rw [if_neg h1, if_pos] at h
      · exact h rfl
      · rw [Int32.lt_iff_toInt_lt] at h1 ⊢
        have e0 : (0 : Int32).toInt = 0 := rfl
        have e1 : (nI 0 - 1).toInt = -1 := by decide +kernel
        omega
  | succ n =>
    rw [nI_pred] at h
    obtain ⟨j, hj, e⟩ := kf_within_nI (n := n) rfl (by omega) h
    exact ⟨j, by omega, e⟩
def kg_dr (s : kn_S) (m cl : Nat) (x y w : Int32) : Nat → Int32 × kn_S
  | 0 => (0, s)
  | j + 1 => ((kg_dr s m cl x y w j).1 + (if kg_fa (kg_dr s m cl x y w j).2 m cl x y w = 1 then 1 else 0), kg_fs (kg_dr s m cl x y w j).2 m cl x y w)
def kg_tell (s : kn_S) (cc : Nat) (w : Int32) : Int32 := if w = 0 then s 129 (17 + cc) else if w = 1 then s 129 (25 + cc) else if w = 2 then s 129 (33 + cc) else if w = 3 then kg_thr s cc else s 129 (41 + cc)
def kg_lf (s : kn_S) (m : Nat) : Nat → Int32
  | 0 => kg_gr s m
  | j + 1 => kf_min (kg_lf s m j) (s 129 (17 + j))
def kg_evo (s : kn_S) (x : Int32) : Nat → Int32
  | 0 => 0
  | j + 1 => kg_evo s x j + (if s 129 (74 + 3 * j) = x then 1 else 0)
def kg_oc (s : kn_S) (k : Nat) : Nat → Int32 × Int32
  | 0 => (0, 0)
  | j + 1 => ((kg_oc s k j).1 + s 129 (49 + 4 * j + k), (kg_oc s k j).2 + (if s 129 (49 + 4 * j + k) ≤ 0 then 0 else 1))
def kg_ocR (p : Int32 × Int32) : UInt64 := if p.2 = 0 then 4636737291354636288 else FP.dsub 4636737291354636288 (FP.ddiv (FP.ddiv (FP.i2d p.1) (FP.i2d p.2)) 4611686018427387904)
def kg_exf (s : kn_S) (g : Nat → Int32) (x v a : Int32) : Nat → Int32
  | 0 => a
  | j + 1 => if g j = x then (if v = 0 then kf_min (kg_exf s g x v a j) (s 129 (49 + j)) else if s 129 (49 + j) ≤ kg_exf s g x v a j then kg_exf s g x v a j else s 129 (49 + j)) else kg_exf s g x v a j
theorem kn_upT_up (t : kn_T) (i k : Nat) (x y : Int64) : kn_upT (kn_upT t i k x) i k y = kn_upT t i k y := by
  funext a b
  unfold kn_upT
  split
  · rfl
  · rfl
def kg_hA (f : Nat → Int32) (a : Nat) (h : Int64) : Nat → Int64
  | 0 => h
  | j + 1 => 31 * kg_hA f a h j + (f (a + j)).toInt64

set_option maxRecDepth 100000 in
set_option maxHeartbeats 4000000 in
theorem m_X7_fire {X : kn_X} {σ : kn_S} {τ : kn_T} {z : kn_Z} {c n : Nat} {Q : kn_Q} {sv m cl : Nat} {x y e : Int32} (hM : kn_isM z) (hsv : σ 128 3 = nI sv) (hsv4 : sv ≤ 4) (hce : ¬ kf_isOp x y = 0 → kf_cell x y = nI cl ∧ cl < 24) (hP : ¬ (kf_isOp x y) = 0 → ¬ (kf_within e 0 20000) = 0 → kg_tp (kg_saves (kn_up σ 128 4 0) sv) m cl e) (hQ : ¬ (kf_isOp x y) = 0 → ¬ (kf_within e 0 20000) = 0 → Q (.inl (some (.int (kg_ta (kg_saves (kn_up σ 128 4 0) sv) m cl e)))) (kg_tr (kg_saves (kn_up σ 128 4 0) sv) m cl e) τ z) (hN : ((kf_isOp x y) = 0 ∨ (kf_within e 0 20000) = 0) → Q (.inl (some (.int (0)))) (kn_up σ 128 4 1) τ z) : kn_Ev X MX7_fire [.ref 128, .int x, .int y, .int e] σ τ z c n Q := by
  refine kn_entry (by decide +kernel) rfl (Nat.le_of_ble_eq_true rfl) ?_
  show kn_Go X MX7_fire 0 [(0, .ref 128), (1, .int x), (2, .int y), (3, .int e)] [] _ _ _ _ _ _
  refine k_aload_n 0 dX7_fire_0 rfl rfl ?_
  refine k_iload_n 1 dX7_fire_1 rfl rfl ?_
  refine k_iload_n 2 dX7_fire_2 rfl rfl ?_
  refine k_invS (As := [_, _]) dX7_fire_3 mm_X7_isPoint wL_X7_111 ⟨by decide, by decide⟩ rfl rfl (Nat.le_of_ble_eq_true rfl) (Nat.zero_le _) (Nat.zero_le _) (m_X7_isPoint ⟨rfl, ?_⟩)
  refine k_ifeq 24 dX7_fire_6 (by decide) (fun h6 => ?_) (fun h6 => ?_)
  · refine k_iconst (1) dX7_fire_24 (by decide) ?_
    refine k_invV (As := [_]) dX7_fire_25 mm_X7_refused wL_X7_34 ⟨by decide, by decide⟩ hM.1.1 hM.1.2 rfl rfl (Nat.le_of_ble_eq_true rfl) (Nat.zero_le _) (Nat.zero_le _) (m_X7_refused (r := 1) hM rfl ⟨rfl, ?_⟩)
    refine k_ifeq 33 dX7_fire_28 (by decide) (fun h28 => ?_) (fun h28 => ?_)
    · exact absurd h28 (by decide)
    · refine k_iconst (0) dX7_fire_31 (by decide) ?_
      refine k_iret dX7_fire_32 rfl (rfl) ?_
      first
        | exact hN (Or.inl (by assumption))
        | exact hN (Or.inr (by assumption))
  · refine k_iload_n 3 dX7_fire_9 rfl rfl ?_
    refine k_iconst (0) dX7_fire_10 (by decide) ?_
    refine k_sipush (20000) dX7_fire_11 (by decide) ?_
    refine k_invS (As := [_, _, _]) dX7_fire_14 mm_X7_within wL_X7_38 ⟨by decide, by decide⟩ rfl rfl (Nat.le_of_ble_eq_true rfl) (Nat.zero_le _) (Nat.zero_le _) (m_X7_within ⟨rfl, ?_⟩)
    refine k_ifeq 24 dX7_fire_17 (by decide) (fun h17 => ?_) (fun h17 => ?_)
    · refine k_iconst (1) dX7_fire_24 (by decide) ?_
      refine k_invV (As := [_]) dX7_fire_25 mm_X7_refused wL_X7_34 ⟨by decide, by decide⟩ hM.1.1 hM.1.2 rfl rfl (Nat.le_of_ble_eq_true rfl) (Nat.zero_le _) (Nat.zero_le _) (m_X7_refused (r := 1) hM rfl ⟨rfl, ?_⟩)
      refine k_ifeq 33 dX7_fire_28 (by decide) (fun h28 => ?_) (fun h28 => ?_)
      · exact absurd h28 (by decide)
      · refine k_iconst (0) dX7_fire_31 (by decide) ?_
        refine k_iret dX7_fire_32 rfl (rfl) ?_
        first
          | exact hN (Or.inl (by assumption))
          | exact hN (Or.inr (by assumption))
    · refine k_iconst (0) dX7_fire_20 (by decide) ?_
      refine k_goto 25 dX7_fire_21 (by decide) ?_
      refine k_invV (As := [_]) dX7_fire_25 mm_X7_refused wL_X7_34 ⟨by decide, by decide⟩ hM.1.1 hM.1.2 rfl rfl (Nat.le_of_ble_eq_true rfl) (Nat.zero_le _) (Nat.zero_le _) (m_X7_refused (r := 0) hM rfl ⟨rfl, ?_⟩)
      refine k_ifeq 33 dX7_fire_28 (by decide) (fun h28 => ?_) (fun h28 => ?_)
      · refine k_aload_n 0 dX7_fire_33 rfl rfl ?_
        refine k_invV (As := []) dX7_fire_34 mm_X7_saves wL_X7_42 ⟨by decide, by decide⟩ hM.1.1 hM.1.2 rfl rfl (Nat.le_of_ble_eq_true rfl) (Nat.zero_le _) (Nat.zero_le _) (m_X7_saves (sv := sv) hM hsv hsv4 ⟨rfl, ?_⟩)
        refine k_aload_n 0 dX7_fire_37 rfl rfl ?_
        refine k_iload_n 1 dX7_fire_38 rfl rfl ?_
        refine k_iload_n 2 dX7_fire_39 rfl rfl ?_
        refine k_iload_n 3 dX7_fire_40 rfl rfl ?_
        refine k_invV (As := [_, _, _]) dX7_fire_41 mm_X7_treats wL_X7_108 ⟨by decide, by decide⟩ hM.1.1 hM.1.2 rfl rfl (Nat.le_of_ble_eq_true rfl) (Nat.zero_le _) (Nat.zero_le _) (m_X7_treats (m := m) (cl := cl) hM (hP h6 h17) (hce h6).1 (hce h6).2 ⟨rfl, ?_⟩)
        refine k_iret dX7_fire_44 rfl (rfl) ?_
        exact hQ h6 h17
      · exact absurd rfl h28

set_option maxRecDepth 100000 in
set_option maxHeartbeats 4000000 in
theorem m_X7_drive {X : kn_X} {σ : kn_S} {τ : kn_T} {z : kn_Z} {c n : Nat} {Q : kn_Q} {sv m cl : Nat} {x y w v : Int32} (hM : kn_isM z) (hsv : σ 128 3 = nI sv) (hsv4 : sv ≤ 4) (hce : ¬ kf_isOp x y = 0 → kf_cell x y = nI cl ∧ cl < 24) (hP : ∀ vv : Nat, v = nI vv → ¬ (kf_isOp x y) = 0 → ¬ (kf_within w 80 110) = 0 → ∀ j, j < vv → kg_fp (kg_dr (kg_saves (kn_up σ 128 4 0) sv) m cl x y w j).2 m cl x y w) (hQ : ∀ vv : Nat, v = nI vv → vv ≤ 1000 → ¬ (kf_isOp x y) = 0 → ¬ (kf_within w 80 110) = 0 → Q (.inl (some (.int ((kg_dr (kg_saves (kn_up σ 128 4 0) sv) m cl x y w vv).1)))) (kg_dr (kg_saves (kn_up σ 128 4 0) sv) m cl x y w vv).2 τ z) (hN : ((kf_isOp x y) = 0 ∨ (kf_within w 80 110) = 0 ∨ (kf_within v 0 1000) = 0) → Q (.inl (some (.int (0)))) (kn_up σ 128 4 1) τ z) : kn_Ev X MX7_drive [.ref 128, .int x, .int y, .int w, .int v] σ τ z c n Q := by
  refine kn_entry (by decide +kernel) rfl (Nat.le_of_ble_eq_true rfl) ?_
  show kn_Go X MX7_drive 0 [(0, .ref 128), (1, .int x), (2, .int y), (3, .int w), (4, .int v)] [] _ _ _ _ _ _
  have lp51 : ∀ r9 : Nat, ∀ (j vv : Nat), j + r9 = vv → vv ≤ 1000 → (kf_cell x y = nI cl ∧ cl < 24) → (∀ j, j < vv → kg_fp (kg_dr (kg_saves (kn_up σ 128 4 0) sv) m cl x y w j).2 m cl x y w) → Q (.inl (some (.int ((kg_dr (kg_saves (kn_up σ 128 4 0) sv) m cl x y w vv).1)))) (kg_dr (kg_saves (kn_up σ 128 4 0) sv) m cl x y w vv).2 τ z → kn_Go X MX7_drive 51 [(6, .int (nI j)), (5, .int (kg_dr (kg_saves (kn_up σ 128 4 0) sv) m cl x y w j).1), (0, .ref 128), (1, .int x), (2, .int y), (3, .int w), (4, .int (nI vv))] [] (kg_dr (kg_saves (kn_up σ 128 4 0) sv) m cl x y w j).2 τ z c n Q := by
    intro r9
    induction r9 with
    | zero =>
      intro j vv hj hvv hc hF hQ
      obtain rfl : j = vv := by omega
      refine k_iload dX7_drive_51 rfl ?_
      refine k_iload dX7_drive_53 rfl ?_
      refine k_icmpge 85 dX7_drive_55 (by decide) (fun h55 => ?_) (fun h55 => ?_)
      · refine k_iload dX7_drive_85 rfl ?_
        refine k_iret dX7_drive_87 rfl (rfl) ?_
        exact hQ
      · exact absurd (nI_le (Nat.le_refl _) (by omega)) h55
    | succ r9 ih =>
      intro j vv hj hvv hc hF hQ
      refine k_iload dX7_drive_51 rfl ?_
      refine k_iload dX7_drive_53 rfl ?_
      refine k_icmpge 85 dX7_drive_55 (by decide) (fun h55 => ?_) (fun h55 => ?_)
      · exact absurd h55 (nI_ge (by omega) (by omega))
      · refine k_iload dX7_drive_58 rfl ?_
        refine k_aload_n 0 dX7_drive_60 rfl rfl ?_
        refine k_iload_n 1 dX7_drive_61 rfl rfl ?_
        refine k_iload_n 2 dX7_drive_62 rfl rfl ?_
        refine k_iload_n 3 dX7_drive_63 rfl rfl ?_
        refine k_invV (As := [_, _, _]) dX7_drive_64 mm_X7_fires wL_X7_117 ⟨by decide, by decide⟩ hM.1.1 hM.1.2 rfl rfl (Nat.le_of_ble_eq_true rfl) (Nat.zero_le _) (Nat.zero_le _) (m_X7_fires (m := m) (cl := cl) hM (hF j (by omega)) hc.1 hc.2 ⟨rfl, ?_⟩)
        refine k_iconst (1) dX7_drive_67 (by decide) ?_
        refine k_icmpne 75 dX7_drive_68 (by decide) (fun h68 => ?_) (fun h68 => ?_)
        · refine k_iconst (0) dX7_drive_75 (by decide) ?_
          refine k_iadd dX7_drive_76 ?_
          refine k_istore (lv' := [(5, _), (6, _), (0, _), (1, _), (2, _), (3, _), (4, _)]) dX7_drive_77 (by decide) rfl ?_
          refine k_iinc (nI (j + 1)) (lv' := [(6, _), (5, _), (0, _), (1, _), (2, _), (3, _), (4, _)]) dX7_drive_79 rfl (kn_inc j) (by decide) rfl ?_
          refine k_goto 51 dX7_drive_82 (by decide) ?_
          have e9 : kg_dr (kg_saves (kn_up σ 128 4 0) sv) m cl x y w (j + 1) = ((kg_dr (kg_saves (kn_up σ 128 4 0) sv) m cl x y w j).1 + (if kg_fa (kg_dr (kg_saves (kn_up σ 128 4 0) sv) m cl x y w j).2 m cl x y w = 1 then 1 else 0), kg_fs (kg_dr (kg_saves (kn_up σ 128 4 0) sv) m cl x y w j).2 m cl x y w) := rfl
          rw [if_neg h68] at e9
          have h9 := ih (j + 1) vv (by omega) hvv hc hF hQ
          rw [e9] at h9
          exact h9
        · refine k_iconst (1) dX7_drive_71 (by decide) ?_
          refine k_goto 76 dX7_drive_72 (by decide) ?_
          refine k_iadd dX7_drive_76 ?_
          refine k_istore (lv' := [(5, _), (6, _), (0, _), (1, _), (2, _), (3, _), (4, _)]) dX7_drive_77 (by decide) rfl ?_
          refine k_iinc (nI (j + 1)) (lv' := [(6, _), (5, _), (0, _), (1, _), (2, _), (3, _), (4, _)]) dX7_drive_79 rfl (kn_inc j) (by decide) rfl ?_
          refine k_goto 51 dX7_drive_82 (by decide) ?_
          have e9 : kg_dr (kg_saves (kn_up σ 128 4 0) sv) m cl x y w (j + 1) = ((kg_dr (kg_saves (kn_up σ 128 4 0) sv) m cl x y w j).1 + (if kg_fa (kg_dr (kg_saves (kn_up σ 128 4 0) sv) m cl x y w j).2 m cl x y w = 1 then 1 else 0), kg_fs (kg_dr (kg_saves (kn_up σ 128 4 0) sv) m cl x y w j).2 m cl x y w) := rfl
          rw [if_pos h68] at e9
          have h9 := ih (j + 1) vv (by omega) hvv hc hF hQ
          rw [e9] at h9
          exact h9
  refine k_aload_n 0 dX7_drive_0 rfl rfl ?_
  refine k_iload_n 1 dX7_drive_1 rfl rfl ?_
  refine k_iload_n 2 dX7_drive_2 rfl rfl ?_
  refine k_invS (As := [_, _]) dX7_drive_3 mm_X7_isPoint wL_X7_111 ⟨by decide, by decide⟩ rfl rfl (Nat.le_of_ble_eq_true rfl) (Nat.zero_le _) (Nat.zero_le _) (m_X7_isPoint ⟨rfl, ?_⟩)
  refine k_ifeq 32 dX7_drive_6 (by decide) (fun h6 => ?_) (fun h6 => ?_)
  · refine k_iconst (1) dX7_drive_32 (by decide) ?_
    refine k_invV (As := [_]) dX7_drive_33 mm_X7_refused wL_X7_34 ⟨by decide, by decide⟩ hM.1.1 hM.1.2 rfl rfl (Nat.le_of_ble_eq_true rfl) (Nat.zero_le _) (Nat.zero_le _) (m_X7_refused (r := 1) hM rfl ⟨rfl, ?_⟩)
    refine k_ifeq 41 dX7_drive_36 (by decide) (fun h36 => ?_) (fun h36 => ?_)
    · exact absurd h36 (by decide)
    · refine k_iconst (0) dX7_drive_39 (by decide) ?_
      refine k_iret dX7_drive_40 rfl (rfl) ?_
      first
        | exact hN (Or.inl (by assumption))
        | exact hN (Or.inr (Or.inl (by assumption)))
        | exact hN (Or.inr (Or.inr (by assumption)))
  · refine k_iload_n 3 dX7_drive_9 rfl rfl ?_
    refine k_invS (As := [_]) dX7_drive_10 mm_X7_isOctane wL_X7_114 ⟨by decide, by decide⟩ rfl rfl (Nat.le_of_ble_eq_true rfl) (Nat.zero_le _) (Nat.zero_le _) (m_X7_isOctane ⟨rfl, ?_⟩)
    refine k_ifeq 32 dX7_drive_13 (by decide) (fun h13 => ?_) (fun h13 => ?_)
    · refine k_iconst (1) dX7_drive_32 (by decide) ?_
      refine k_invV (As := [_]) dX7_drive_33 mm_X7_refused wL_X7_34 ⟨by decide, by decide⟩ hM.1.1 hM.1.2 rfl rfl (Nat.le_of_ble_eq_true rfl) (Nat.zero_le _) (Nat.zero_le _) (m_X7_refused (r := 1) hM rfl ⟨rfl, ?_⟩)
      refine k_ifeq 41 dX7_drive_36 (by decide) (fun h36 => ?_) (fun h36 => ?_)
      · exact absurd h36 (by decide)
      · refine k_iconst (0) dX7_drive_39 (by decide) ?_
        refine k_iret dX7_drive_40 rfl (rfl) ?_
        first
          | exact hN (Or.inl (by assumption))
          | exact hN (Or.inr (Or.inl (by assumption)))
          | exact hN (Or.inr (Or.inr (by assumption)))
    · refine k_iload dX7_drive_16 rfl ?_
      refine k_iconst (0) dX7_drive_18 (by decide) ?_
      refine k_sipush (1000) dX7_drive_19 (by decide) ?_
      refine k_invS (As := [_, _, _]) dX7_drive_22 mm_X7_within wL_X7_38 ⟨by decide, by decide⟩ rfl rfl (Nat.le_of_ble_eq_true rfl) (Nat.zero_le _) (Nat.zero_le _) (m_X7_within ⟨rfl, ?_⟩)
      refine k_ifeq 32 dX7_drive_25 (by decide) (fun h25 => ?_) (fun h25 => ?_)
      · refine k_iconst (1) dX7_drive_32 (by decide) ?_
        refine k_invV (As := [_]) dX7_drive_33 mm_X7_refused wL_X7_34 ⟨by decide, by decide⟩ hM.1.1 hM.1.2 rfl rfl (Nat.le_of_ble_eq_true rfl) (Nat.zero_le _) (Nat.zero_le _) (m_X7_refused (r := 1) hM rfl ⟨rfl, ?_⟩)
        refine k_ifeq 41 dX7_drive_36 (by decide) (fun h36 => ?_) (fun h36 => ?_)
        · exact absurd h36 (by decide)
        · refine k_iconst (0) dX7_drive_39 (by decide) ?_
          refine k_iret dX7_drive_40 rfl (rfl) ?_
          first
            | exact hN (Or.inl (by assumption))
            | exact hN (Or.inr (Or.inl (by assumption)))
            | exact hN (Or.inr (Or.inr (by assumption)))
      · refine k_iconst (0) dX7_drive_28 (by decide) ?_
        refine k_goto 33 dX7_drive_29 (by decide) ?_
        refine k_invV (As := [_]) dX7_drive_33 mm_X7_refused wL_X7_34 ⟨by decide, by decide⟩ hM.1.1 hM.1.2 rfl rfl (Nat.le_of_ble_eq_true rfl) (Nat.zero_le _) (Nat.zero_le _) (m_X7_refused (r := 0) hM rfl ⟨rfl, ?_⟩)
        refine k_ifeq 41 dX7_drive_36 (by decide) (fun h36 => ?_) (fun h36 => ?_)
        · refine k_aload_n 0 dX7_drive_41 rfl rfl ?_
          refine k_invV (As := []) dX7_drive_42 mm_X7_saves wL_X7_42 ⟨by decide, by decide⟩ hM.1.1 hM.1.2 rfl rfl (Nat.le_of_ble_eq_true rfl) (Nat.zero_le _) (Nat.zero_le _) (m_X7_saves (sv := sv) hM hsv hsv4 ⟨rfl, ?_⟩)
          refine k_iconst (0) dX7_drive_45 (by decide) ?_
          refine k_istore (lv' := [(5, _), (0, _), (1, _), (2, _), (3, _), (4, _)]) dX7_drive_46 (by decide) rfl ?_
          refine k_iconst (0) dX7_drive_48 (by decide) ?_
          refine k_istore (lv' := [(6, _), (5, _), (0, _), (1, _), (2, _), (3, _), (4, _)]) dX7_drive_49 (by decide) rfl ?_
          obtain ⟨vv, hvv, rfl⟩ := kf_within_nI (n := 1000) rfl (by decide) h25
          exact lp51 vv 0 vv (Nat.zero_add _) hvv (hce h6) (hP vv rfl h6 h13) (hQ vv rfl hvv h6 h13)
        · exact absurd rfl h36

set_option maxRecDepth 100000 in
set_option maxHeartbeats 4000000 in
theorem m_X7_firings {X : kn_X} {σ : kn_S} {τ : kn_T} {z : kn_Z} {c n : Nat} {Q : kn_Q}  (hM : kn_isM z) (hQ : Q (.inl (some (.int (σ 129 9)))) (kn_up σ 128 4 0) τ z) : kn_Ev X MX7_firings [.ref 128] σ τ z c n Q := by
  refine kn_entry (by decide +kernel) rfl (Nat.le_of_ble_eq_true rfl) ?_
  show kn_Go X MX7_firings 0 [(0, .ref 128)] [] _ _ _ _ _ _
  refine k_aload_n 0 dX7_firings_0 rfl rfl ?_
  refine k_iconst (0) dX7_firings_1 (by decide) ?_
  refine k_putfield dX7_firings_2 hc_X7 hM.1.1 hM.1.2 4 (by decide) wF_X7_27 rfl rfl (t9 := .int) (by decide +kernel) rfl rfl ?_
  refine k_aload_n 0 dX7_firings_5 rfl rfl ?_
  refine k_getfield dX7_firings_6 hc_X7 hM.1.1 hM.1.2 0 (by decide) wF_X7_7 rfl ?_
  refine k_bipush (9) dX7_firings_9 (by decide) ?_
  refine k_ialoadN (9) dX7_firings_11 hM.2.1.1 hM.2.1.2 (rfl) (⟨by omega, by decide⟩) ?_
  refine k_iret dX7_firings_12 rfl (rfl) ?_
  exact hQ

set_option maxRecDepth 100000 in
set_option maxHeartbeats 4000000 in
theorem m_X7_next {X : kn_X} {σ : kn_S} {τ : kn_T} {z : kn_Z} {c n : Nat} {Q : kn_Q} {m fi : Nat} (hM : kn_isM z) (hm8 : σ 129 8 = nI m) (hm : 1 ≤ m ∧ m ≤ 8) (hfi31 : fi < 2 ^ 31) (hfi : σ 129 9 = nI fi) (hQ : Q (.inl (some (.int (nI (fi % m))))) (kn_up σ 128 4 0) τ z) : kn_Ev X MX7_next [.ref 128] σ τ z c n Q := by
  refine kn_entry (by decide +kernel) rfl (Nat.le_of_ble_eq_true rfl) ?_
  show kn_Go X MX7_next 0 [(0, .ref 128)] [] _ _ _ _ _ _
  refine k_aload_n 0 dX7_next_0 rfl rfl ?_
  refine k_iconst (0) dX7_next_1 (by decide) ?_
  refine k_putfield dX7_next_2 hc_X7 hM.1.1 hM.1.2 4 (by decide) wF_X7_27 rfl rfl (t9 := .int) (by decide +kernel) rfl rfl ?_
  refine k_aload_n 0 dX7_next_5 rfl rfl ?_
  refine k_getfield dX7_next_6 hc_X7 hM.1.1 hM.1.2 0 (by decide) wF_X7_7 rfl ?_
  refine k_bipush (9) dX7_next_9 (by decide) ?_
  refine k_ialoadV (9) dX7_next_11 hM.2.1.1 hM.2.1.2 (rfl) (⟨by omega, by decide⟩) (hfi) ?_
  refine k_aload_n 0 dX7_next_12 rfl rfl ?_
  refine k_getfield dX7_next_13 hc_X7 hM.1.1 hM.1.2 0 (by decide) wF_X7_7 rfl ?_
  refine k_bipush (8) dX7_next_16 (by decide) ?_
  refine k_ialoadV (8) dX7_next_18 hM.2.1.1 hM.2.1.2 (rfl) (⟨by omega, by decide⟩) (hm8) ?_
  refine k_irem dX7_next_19 (nI_ne0 (by omega) (by omega)) ?_
  rw [kg_rem hfi31 hm]
  refine k_iret dX7_next_20 rfl (rfl) ?_
  exact hQ

set_option maxRecDepth 100000 in
set_option maxHeartbeats 4000000 in
theorem m_X7_isCylinder {X : kn_X} {σ : kn_S} {τ : kn_T} {z : kn_Z} {c n : Nat} {Q : kn_Q} {m : Nat} {x : Int32} (hM : kn_isM z) (hm8 : σ 129 8 = nI m) (hm : 1 ≤ m ∧ m ≤ 8) (hQ : Q (.inl (some (.int (kg_isN m x)))) σ τ z) : kn_Ev X MX7_isCylinder [.ref 128, .int x] σ τ z c n Q := by
  refine kn_entry (by decide +kernel) rfl (Nat.le_of_ble_eq_true rfl) ?_
  show kn_Go X MX7_isCylinder 0 [(0, .ref 128), (1, .int x)] [] _ _ _ _ _ _
  refine k_iload_n 1 dX7_isCylinder_0 rfl rfl ?_
  refine k_iconst (0) dX7_isCylinder_1 (by decide) ?_
  refine k_aload_n 0 dX7_isCylinder_2 rfl rfl ?_
  refine k_getfield dX7_isCylinder_3 hc_X7 hM.1.1 hM.1.2 0 (by decide) wF_X7_7 rfl ?_
  refine k_bipush (8) dX7_isCylinder_6 (by decide) ?_
  refine k_ialoadV (8) dX7_isCylinder_8 hM.2.1.1 hM.2.1.2 (rfl) (⟨by omega, by decide⟩) (hm8) ?_
  refine k_iconst (1) dX7_isCylinder_9 (by decide) ?_
  refine k_isub dX7_isCylinder_10 ?_
  refine k_invS (As := [_, _, _]) dX7_isCylinder_11 mm_X7_within wL_X7_38 ⟨by decide, by decide⟩ rfl rfl (Nat.le_of_ble_eq_true rfl) (Nat.zero_le _) (Nat.zero_le _) (m_X7_within ⟨rfl, ?_⟩)
  refine k_iret dX7_isCylinder_14 rfl (by rcases kf_within_01 x 0 (nI m - 1) with h9 | h9 <;> (rw [h9]; rfl)) ?_
  exact hQ

set_option maxRecDepth 100000 in
set_option maxHeartbeats 4000000 in
theorem m_X7_tellCylinder {X : kn_X} {σ : kn_S} {τ : kn_T} {z : kn_Z} {c n : Nat} {Q : kn_Q} {cc : Nat} {w : Int32} (hM : kn_isM z) (hcc : cc < 8) (hQ : Q (.inl (some (.int (kg_tell σ cc w)))) σ τ z) : kn_Ev X MX7_tellCylinder [.ref 128, .int (nI cc), .int w] σ τ z c n Q := by
  refine kn_entry (by decide +kernel) rfl (Nat.le_of_ble_eq_true rfl) ?_
  show kn_Go X MX7_tellCylinder 0 [(0, .ref 128), (1, .int (nI cc)), (2, .int w)] [] _ _ _ _ _ _
  refine k_iload_n 2 dX7_tellCylinder_0 rfl rfl ?_
  rcases kn_sw3 w with hsw | hsw | hsw | hsw | hsw
  · rw [hsw]
    refine k_tsIn 32 dX7_tellCylinder_1 (by decide) (by decide) rfl (by decide) ?_
    refine k_aload_n 0 dX7_tellCylinder_32 rfl rfl ?_
    refine k_getfield dX7_tellCylinder_33 hc_X7 hM.1.1 hM.1.2 0 (by decide) wF_X7_7 rfl ?_
    refine k_bipush (17) dX7_tellCylinder_36 (by decide) ?_
    refine k_iload_n 1 dX7_tellCylinder_38 rfl rfl ?_
    refine k_iadd dX7_tellCylinder_39 ?_
    refine k_ialoadN ((17 + cc)) dX7_tellCylinder_40 hM.2.1.1 hM.2.1.2 ((kg_add rfl rfl)) (⟨by omega, by decide⟩) ?_
    refine k_iret dX7_tellCylinder_41 rfl (rfl) ?_
    rw [hsw] at hQ
    dsimp only [kg_tell] at hQ
    rw [if_pos (show (0 : Int32) = 0 from rfl)] at hQ
    exact hQ
  · rw [hsw]
    refine k_tsIn 42 dX7_tellCylinder_1 (by decide) (by decide) rfl (by decide) ?_
    refine k_aload_n 0 dX7_tellCylinder_42 rfl rfl ?_
    refine k_getfield dX7_tellCylinder_43 hc_X7 hM.1.1 hM.1.2 0 (by decide) wF_X7_7 rfl ?_
    refine k_bipush (25) dX7_tellCylinder_46 (by decide) ?_
    refine k_iload_n 1 dX7_tellCylinder_48 rfl rfl ?_
    refine k_iadd dX7_tellCylinder_49 ?_
    refine k_ialoadN ((25 + cc)) dX7_tellCylinder_50 hM.2.1.1 hM.2.1.2 ((kg_add rfl rfl)) (⟨by omega, by decide⟩) ?_
    refine k_iret dX7_tellCylinder_51 rfl (rfl) ?_
    rw [hsw] at hQ
    dsimp only [kg_tell] at hQ
    rw [if_neg (show ¬ (1 : Int32) = 0 by decide), if_pos (show (1 : Int32) = 1 from rfl)] at hQ
    exact hQ
  · rw [hsw]
    refine k_tsIn 52 dX7_tellCylinder_1 (by decide) (by decide) rfl (by decide) ?_
    refine k_aload_n 0 dX7_tellCylinder_52 rfl rfl ?_
    refine k_getfield dX7_tellCylinder_53 hc_X7 hM.1.1 hM.1.2 0 (by decide) wF_X7_7 rfl ?_
    refine k_bipush (33) dX7_tellCylinder_56 (by decide) ?_
    refine k_iload_n 1 dX7_tellCylinder_58 rfl rfl ?_
    refine k_iadd dX7_tellCylinder_59 ?_
    refine k_ialoadN ((33 + cc)) dX7_tellCylinder_60 hM.2.1.1 hM.2.1.2 ((kg_add rfl rfl)) (⟨by omega, by decide⟩) ?_
    refine k_iret dX7_tellCylinder_61 rfl (rfl) ?_
    rw [hsw] at hQ
    dsimp only [kg_tell] at hQ
    rw [if_neg (show ¬ (2 : Int32) = 0 by decide), if_neg (show ¬ (2 : Int32) = 1 by decide), if_pos (show (2 : Int32) = 2 from rfl)] at hQ
    exact hQ
  · rw [hsw]
    refine k_tsIn 62 dX7_tellCylinder_1 (by decide) (by decide) rfl (by decide) ?_
    refine k_aload_n 0 dX7_tellCylinder_62 rfl rfl ?_
    refine k_iload_n 1 dX7_tellCylinder_63 rfl rfl ?_
    refine k_invV (As := [_]) dX7_tellCylinder_64 mm_X7_threshold wL_X7_77 ⟨by decide, by decide⟩ hM.1.1 hM.1.2 rfl rfl (Nat.le_of_ble_eq_true rfl) (Nat.zero_le _) (Nat.zero_le _) (m_X7_threshold (cc := cc) hM hcc ⟨rfl, ?_⟩)
    refine k_iret dX7_tellCylinder_67 rfl (rfl) ?_
    rw [hsw] at hQ
    dsimp only [kg_tell] at hQ
    rw [if_neg (show ¬ (3 : Int32) = 0 by decide), if_neg (show ¬ (3 : Int32) = 1 by decide), if_neg (show ¬ (3 : Int32) = 2 by decide), if_pos (show (3 : Int32) = 3 from rfl)] at hQ
    exact hQ
  · refine k_tsOut 68 dX7_tellCylinder_1 hsw.2 (by decide) ?_
    refine k_aload_n 0 dX7_tellCylinder_68 rfl rfl ?_
    refine k_getfield dX7_tellCylinder_69 hc_X7 hM.1.1 hM.1.2 0 (by decide) wF_X7_7 rfl ?_
    refine k_bipush (41) dX7_tellCylinder_72 (by decide) ?_
    refine k_iload_n 1 dX7_tellCylinder_74 rfl rfl ?_
    refine k_iadd dX7_tellCylinder_75 ?_
    refine k_ialoadN ((41 + cc)) dX7_tellCylinder_76 hM.2.1.1 hM.2.1.2 ((kg_add rfl rfl)) (⟨by omega, by decide⟩) ?_
    refine k_iret dX7_tellCylinder_77 rfl (rfl) ?_
    dsimp only [kg_tell] at hQ
    rw [if_neg hsw.1.1, if_neg hsw.1.2.1, if_neg hsw.1.2.2.1, if_neg hsw.1.2.2.2] at hQ
    exact hQ

set_option maxRecDepth 100000 in
set_option maxHeartbeats 4000000 in
theorem m_X7_cylinder {X : kn_X} {σ : kn_S} {τ : kn_T} {z : kn_Z} {c n : Nat} {Q : kn_Q} {m : Nat} {x y : Int32} (hM : kn_isM z) (hm8 : σ 129 8 = nI m) (hm : 1 ≤ m ∧ m ≤ 8) (hQ : ∀ cc, x = nI cc → cc < m → ¬ (kf_within y 0 4) = 0 → Q (.inl (some (.int (kg_tell (kn_up σ 128 4 0) cc y)))) (kn_up σ 128 4 0) τ z) (hNp : (kg_isN m x) = 0 → Q (.inl (some (.int (0)))) (kn_up σ 128 4 1) τ z) (hN : ¬ (kg_isN m x) = 0 → (kf_within y 0 4) = 0 → Q (.inl (some (.int (0)))) (kn_up σ 128 4 2) τ z) : kn_Ev X MX7_cylinder [.ref 128, .int x, .int y] σ τ z c n Q := by
  refine kn_entry (by decide +kernel) rfl (Nat.le_of_ble_eq_true rfl) ?_
  show kn_Go X MX7_cylinder 0 [(0, .ref 128), (1, .int x), (2, .int y)] [] _ _ _ _ _ _
  refine k_aload_n 0 dX7_cylinder_0 rfl rfl ?_
  refine k_aload_n 0 dX7_cylinder_1 rfl rfl ?_
  refine k_iload_n 1 dX7_cylinder_2 rfl rfl ?_
  refine k_invV (As := [_]) dX7_cylinder_3 mm_X7_isCylinder wL_X7_120 ⟨by decide, by decide⟩ hM.1.1 hM.1.2 rfl rfl (Nat.le_of_ble_eq_true rfl) (Nat.zero_le _) (Nat.zero_le _) (m_X7_isCylinder (m := m) hM hm8 hm ⟨rfl, ?_⟩)
  refine k_ifne 13 dX7_cylinder_6 (by decide) (fun h6 => ?_) (fun h6 => ?_)
  · obtain ⟨cc, hcc, ec⟩ := kg_isN_nI (by omega) h6
    subst ec
    refine k_iload_n 2 dX7_cylinder_13 rfl rfl ?_
    refine k_iconst (0) dX7_cylinder_14 (by decide) ?_
    refine k_iconst (4) dX7_cylinder_15 (by decide) ?_
    refine k_invS (As := [_, _, _]) dX7_cylinder_16 mm_X7_within wL_X7_38 ⟨by decide, by decide⟩ rfl rfl (Nat.le_of_ble_eq_true rfl) (Nat.zero_le _) (Nat.zero_le _) (m_X7_within ⟨rfl, ?_⟩)
    refine k_ifeq 26 dX7_cylinder_19 (by decide) (fun h19 => ?_) (fun h19 => ?_)
    · refine k_iconst (2) dX7_cylinder_26 (by decide) ?_
      refine k_invV (As := [_]) dX7_cylinder_27 mm_X7_refused wL_X7_34 ⟨by decide, by decide⟩ hM.1.1 hM.1.2 rfl rfl (Nat.le_of_ble_eq_true rfl) (Nat.zero_le _) (Nat.zero_le _) (m_X7_refused (r := 1) hM rfl ⟨rfl, ?_⟩)
      refine k_ifeq 37 dX7_cylinder_30 (by decide) (fun h30 => ?_) (fun h30 => ?_)
      · exact absurd h30 (by decide)
      · refine k_iconst (0) dX7_cylinder_33 (by decide) ?_
        refine k_goto 43 dX7_cylinder_34 (by decide) ?_
        refine k_iret dX7_cylinder_43 rfl (rfl) ?_
        exact hN h6 h19
    · refine k_iconst (0) dX7_cylinder_22 (by decide) ?_
      refine k_goto 27 dX7_cylinder_23 (by decide) ?_
      refine k_invV (As := [_]) dX7_cylinder_27 mm_X7_refused wL_X7_34 ⟨by decide, by decide⟩ hM.1.1 hM.1.2 rfl rfl (Nat.le_of_ble_eq_true rfl) (Nat.zero_le _) (Nat.zero_le _) (m_X7_refused (r := 0) hM rfl ⟨rfl, ?_⟩)
      refine k_ifeq 37 dX7_cylinder_30 (by decide) (fun h30 => ?_) (fun h30 => ?_)
      · refine k_aload_n 0 dX7_cylinder_37 rfl rfl ?_
        refine k_iload_n 1 dX7_cylinder_38 rfl rfl ?_
        refine k_iload_n 2 dX7_cylinder_39 rfl rfl ?_
        refine k_invV (As := [_, _]) dX7_cylinder_40 mm_X7_tellCylinder wL_X7_123 ⟨by decide, by decide⟩ hM.1.1 hM.1.2 rfl rfl (Nat.le_of_ble_eq_true rfl) (Nat.zero_le _) (Nat.zero_le _) (m_X7_tellCylinder (cc := cc) hM (by omega) ⟨rfl, ?_⟩)
        refine k_iret dX7_cylinder_43 rfl (rfl) ?_
        exact hQ cc rfl hcc h19
      · exact absurd rfl h30
  · refine k_iconst (1) dX7_cylinder_9 (by decide) ?_
    refine k_goto 27 dX7_cylinder_10 (by decide) ?_
    refine k_invV (As := [_]) dX7_cylinder_27 mm_X7_refused wL_X7_34 ⟨by decide, by decide⟩ hM.1.1 hM.1.2 rfl rfl (Nat.le_of_ble_eq_true rfl) (Nat.zero_le _) (Nat.zero_le _) (m_X7_refused (r := 1) hM rfl ⟨rfl, ?_⟩)
    refine k_ifeq 37 dX7_cylinder_30 (by decide) (fun h30 => ?_) (fun h30 => ?_)
    · exact absurd h30 (by decide)
    · refine k_iconst (0) dX7_cylinder_33 (by decide) ?_
      refine k_goto 43 dX7_cylinder_34 (by decide) ?_
      refine k_iret dX7_cylinder_43 rfl (rfl) ?_
      exact hNp h6

set_option maxRecDepth 100000 in
set_option maxHeartbeats 4000000 in
theorem m_X7_learned {X : kn_X} {σ : kn_S} {τ : kn_T} {z : kn_Z} {c n : Nat} {Q : kn_Q} {x y : Int32} (hM : kn_isM z) (hQ : ∀ r k, x = nI r → y = nI k → r ≤ 5 → k ≤ 3 → Q (.inl (some (.int (σ 129 (49 + 4 * r + k))))) (kn_up σ 128 4 0) τ z) (hNp : kf_isCell x y = 0 → Q (.inl (some (.int (0)))) (kn_up σ 128 4 1) τ z) : kn_Ev X MX7_learned [.ref 128, .int x, .int y] σ τ z c n Q := by
  refine kn_entry (by decide +kernel) rfl (Nat.le_of_ble_eq_true rfl) ?_
  show kn_Go X MX7_learned 0 [(0, .ref 128), (1, .int x), (2, .int y)] [] _ _ _ _ _ _
  refine k_aload_n 0 dX7_learned_0 rfl rfl ?_
  refine k_iload_n 1 dX7_learned_1 rfl rfl ?_
  refine k_iload_n 2 dX7_learned_2 rfl rfl ?_
  refine k_invS (As := [_, _]) dX7_learned_3 mm_X7_isCell wL_X7_49 ⟨by decide, by decide⟩ rfl rfl (Nat.le_of_ble_eq_true rfl) (Nat.zero_le _) (Nat.zero_le _) (m_X7_isCell ⟨rfl, ?_⟩)
  refine k_ifeq 13 dX7_learned_6 (by decide) (fun h6 => ?_) (fun h6 => ?_)
  · refine k_iconst (1) dX7_learned_13 (by decide) ?_
    refine k_invV (As := [_]) dX7_learned_14 mm_X7_refused wL_X7_34 ⟨by decide, by decide⟩ hM.1.1 hM.1.2 rfl rfl (Nat.le_of_ble_eq_true rfl) (Nat.zero_le _) (Nat.zero_le _) (m_X7_refused (r := 1) hM rfl ⟨rfl, ?_⟩)
    refine k_ifeq 24 dX7_learned_17 (by decide) (fun h17 => ?_) (fun h17 => ?_)
    · exact absurd h17 (by decide)
    · refine k_iconst (0) dX7_learned_20 (by decide) ?_
      refine k_goto 37 dX7_learned_21 (by decide) ?_
      refine k_iret dX7_learned_37 rfl (rfl) ?_
      exact hNp h6
  · obtain ⟨r, k, hr, hk, er, ek⟩ := kf_isCell_nI h6
    refine k_iconst (0) dX7_learned_9 (by decide) ?_
    refine k_goto 14 dX7_learned_10 (by decide) ?_
    refine k_invV (As := [_]) dX7_learned_14 mm_X7_refused wL_X7_34 ⟨by decide, by decide⟩ hM.1.1 hM.1.2 rfl rfl (Nat.le_of_ble_eq_true rfl) (Nat.zero_le _) (Nat.zero_le _) (m_X7_refused (r := 0) hM rfl ⟨rfl, ?_⟩)
    refine k_ifeq 24 dX7_learned_17 (by decide) (fun h17 => ?_) (fun h17 => ?_)
    · refine k_aload_n 0 dX7_learned_24 rfl rfl ?_
      refine k_getfield dX7_learned_25 hc_X7 hM.1.1 hM.1.2 0 (by decide) wF_X7_7 rfl ?_
      refine k_bipush (49) dX7_learned_28 (by decide) ?_
      refine k_iconst (4) dX7_learned_30 (by decide) ?_
      refine k_iload_n 1 dX7_learned_31 rfl rfl ?_
      refine k_imul dX7_learned_32 ?_
      refine k_iadd dX7_learned_33 ?_
      refine k_iload_n 2 dX7_learned_34 rfl rfl ?_
      refine k_iadd dX7_learned_35 ?_
      refine k_ialoadN (49 + 4 * r + k) dX7_learned_36 hM.2.1.1 hM.2.1.2 (kg_add (kg_add (a := 49) rfl (kg_mul (a := 4) rfl er)) ek) (⟨by omega, by decide⟩) ?_
      refine k_iret dX7_learned_37 rfl (rfl) ?_
      exact hQ r k er ek hr hk
    · exact absurd rfl h17

set_option maxRecDepth 100000 in
set_option maxHeartbeats 4000000 in
theorem m_X7_angle {X : kn_X} {σ : kn_S} {τ : kn_T} {z : kn_Z} {c n : Nat} {Q : kn_Q} {m cl : Nat} {x y w v : Int32} (hM : kn_isM z) (hm8 : σ 129 8 = nI m) (hm : 1 ≤ m ∧ m ≤ 8) (hce : ¬ kf_isOp y w = 0 → kf_cell y w = nI cl ∧ cl < 24) (hQ : ∀ cc, x = nI cc → cc < m → ¬ (kf_isOp y w) = 0 → Q (.inl (some (.int (if v = 0 then kg_ret (kn_up σ 128 4 0) cc cl else 100 + y / 50 - w - kg_ret (kn_up σ 128 4 0) cc cl)))) (kn_up σ 128 4 0) τ z) (hNp : (kg_isN m x) = 0 → Q (.inl (some (.int (0)))) (kn_up σ 128 4 1) τ z) (hN : ¬ (kg_isN m x) = 0 → (kf_isOp y w) = 0 → Q (.inl (some (.int (0)))) (kn_up σ 128 4 2) τ z) : kn_Ev X MX7_angle [.ref 128, .int x, .int y, .int w, .int v] σ τ z c n Q := by
  refine kn_entry (by decide +kernel) rfl (Nat.le_of_ble_eq_true rfl) ?_
  show kn_Go X MX7_angle 0 [(0, .ref 128), (1, .int x), (2, .int y), (3, .int w), (4, .int v)] [] _ _ _ _ _ _
  refine k_aload_n 0 dX7_angle_0 rfl rfl ?_
  refine k_aload_n 0 dX7_angle_1 rfl rfl ?_
  refine k_iload_n 1 dX7_angle_2 rfl rfl ?_
  refine k_invV (As := [_]) dX7_angle_3 mm_X7_isCylinder wL_X7_120 ⟨by decide, by decide⟩ hM.1.1 hM.1.2 rfl rfl (Nat.le_of_ble_eq_true rfl) (Nat.zero_le _) (Nat.zero_le _) (m_X7_isCylinder (m := m) hM hm8 hm ⟨rfl, ?_⟩)
  refine k_ifne 13 dX7_angle_6 (by decide) (fun h6 => ?_) (fun h6 => ?_)
  · obtain ⟨cc, hcc, ec⟩ := kg_isN_nI (by omega) h6
    subst ec
    refine k_iload_n 2 dX7_angle_13 rfl rfl ?_
    refine k_iload_n 3 dX7_angle_14 rfl rfl ?_
    refine k_invS (As := [_, _]) dX7_angle_15 mm_X7_isPoint wL_X7_111 ⟨by decide, by decide⟩ rfl rfl (Nat.le_of_ble_eq_true rfl) (Nat.zero_le _) (Nat.zero_le _) (m_X7_isPoint ⟨rfl, ?_⟩)
    refine k_ifeq 25 dX7_angle_18 (by decide) (fun h18 => ?_) (fun h18 => ?_)
    · refine k_iconst (2) dX7_angle_25 (by decide) ?_
      refine k_invV (As := [_]) dX7_angle_26 mm_X7_refused wL_X7_34 ⟨by decide, by decide⟩ hM.1.1 hM.1.2 rfl rfl (Nat.le_of_ble_eq_true rfl) (Nat.zero_le _) (Nat.zero_le _) (m_X7_refused (r := 1) hM rfl ⟨rfl, ?_⟩)
      refine k_ifeq 34 dX7_angle_29 (by decide) (fun h29 => ?_) (fun h29 => ?_)
      · exact absurd h29 (by decide)
      · refine k_iconst (0) dX7_angle_32 (by decide) ?_
        refine k_iret dX7_angle_33 rfl (rfl) ?_
        exact hN h6 h18
    · refine k_iconst (0) dX7_angle_21 (by decide) ?_
      refine k_goto 26 dX7_angle_22 (by decide) ?_
      refine k_invV (As := [_]) dX7_angle_26 mm_X7_refused wL_X7_34 ⟨by decide, by decide⟩ hM.1.1 hM.1.2 rfl rfl (Nat.le_of_ble_eq_true rfl) (Nat.zero_le _) (Nat.zero_le _) (m_X7_refused (r := 0) hM rfl ⟨rfl, ?_⟩)
      refine k_ifeq 34 dX7_angle_29 (by decide) (fun h29 => ?_) (fun h29 => ?_)
      · refine k_iload dX7_angle_34 rfl ?_
        refine k_ifeq 49 dX7_angle_36 (by decide) (fun h36 => ?_) (fun h36 => ?_)
        · refine k_aload_n 0 dX7_angle_49 rfl rfl ?_
          refine k_iload_n 1 dX7_angle_50 rfl rfl ?_
          refine k_iload_n 2 dX7_angle_51 rfl rfl ?_
          refine k_iload_n 3 dX7_angle_52 rfl rfl ?_
          refine k_invS (As := [_, _]) dX7_angle_53 mm_X7_cellOf wL_X7_57 ⟨by decide, by decide⟩ rfl rfl (Nat.le_of_ble_eq_true rfl) (Nat.zero_le _) (Nat.zero_le _) (m_X7_cellOf ⟨rfl, ?_⟩)
          rw [(hce h18).1]
          refine k_invV (As := [_, _]) dX7_angle_56 mm_X7_retard wL_X7_60 ⟨by decide, by decide⟩ hM.1.1 hM.1.2 rfl rfl (Nat.le_of_ble_eq_true rfl) (Nat.zero_le _) (Nat.zero_le _) (m_X7_retard (cc := cc) (cl := cl) hM (by omega) (hce h18).2 ⟨rfl, ?_⟩)
          refine k_iret dX7_angle_59 rfl (rfl) ?_
          have h9 := hQ cc rfl hcc h18
          rw [if_pos h36] at h9
          exact h9
        · refine k_aload_n 0 dX7_angle_39 rfl rfl ?_
          refine k_iload_n 1 dX7_angle_40 rfl rfl ?_
          refine k_iload_n 2 dX7_angle_41 rfl rfl ?_
          refine k_iload_n 3 dX7_angle_42 rfl rfl ?_
          refine k_invV (As := [_, _, _]) dX7_angle_43 mm_X7_advance wL_X7_100 ⟨by decide, by decide⟩ hM.1.1 hM.1.2 rfl rfl (Nat.le_of_ble_eq_true rfl) (Nat.zero_le _) (Nat.zero_le _) (m_X7_advance (cc := cc) (cl := cl) hM (by omega) (hce h18).2 (hce h18).1 ⟨rfl, ?_⟩)
          refine k_goto 59 dX7_angle_46 (by decide) ?_
          refine k_iret dX7_angle_59 rfl (rfl) ?_
          have h9 := hQ cc rfl hcc h18
          rw [if_neg h36] at h9
          exact h9
      · exact absurd rfl h29
  · refine k_iconst (1) dX7_angle_9 (by decide) ?_
    refine k_goto 26 dX7_angle_10 (by decide) ?_
    refine k_invV (As := [_]) dX7_angle_26 mm_X7_refused wL_X7_34 ⟨by decide, by decide⟩ hM.1.1 hM.1.2 rfl rfl (Nat.le_of_ble_eq_true rfl) (Nat.zero_le _) (Nat.zero_le _) (m_X7_refused (r := 1) hM rfl ⟨rfl, ?_⟩)
    refine k_ifeq 34 dX7_angle_29 (by decide) (fun h29 => ?_) (fun h29 => ?_)
    · exact absurd h29 (by decide)
    · refine k_iconst (0) dX7_angle_32 (by decide) ?_
      refine k_iret dX7_angle_33 rfl (rfl) ?_
      exact hNp h6

set_option maxRecDepth 100000 in
set_option maxHeartbeats 4000000 in
theorem m_X7_status {X : kn_X} {σ : kn_S} {τ : kn_T} {z : kn_Z} {c n : Nat} {Q : kn_Q} {x : Int32} (hM : kn_isM z) (hQ : ∀ k, x = nI k → k ≤ 4 → Q (.inl (some (.int (σ 129 (12 + k))))) (kn_up σ 128 4 0) τ z) (hN : kf_within x 0 4 = 0 → Q (.inl (some (.int (0)))) (kn_up σ 128 4 1) τ z) : kn_Ev X MX7_status [.ref 128, .int x] σ τ z c n Q := by
  refine kn_entry (by decide +kernel) rfl (Nat.le_of_ble_eq_true rfl) ?_
  show kn_Go X MX7_status 0 [(0, .ref 128), (1, .int x)] [] _ _ _ _ _ _
  refine k_aload_n 0 dX7_status_0 rfl rfl ?_
  refine k_iload_n 1 dX7_status_1 rfl rfl ?_
  refine k_iconst (0) dX7_status_2 (by decide) ?_
  refine k_iconst (4) dX7_status_3 (by decide) ?_
  refine k_invS (As := [_, _, _]) dX7_status_4 mm_X7_within wL_X7_38 ⟨by decide, by decide⟩ rfl rfl (Nat.le_of_ble_eq_true rfl) (Nat.zero_le _) (Nat.zero_le _) (m_X7_within ⟨rfl, ?_⟩)
  refine k_ifeq 14 dX7_status_7 (by decide) (fun h7 => ?_) (fun h7 => ?_)
  · refine k_iconst (1) dX7_status_14 (by decide) ?_
    refine k_invV (As := [_]) dX7_status_15 mm_X7_refused wL_X7_34 ⟨by decide, by decide⟩ hM.1.1 hM.1.2 rfl rfl (Nat.le_of_ble_eq_true rfl) (Nat.zero_le _) (Nat.zero_le _) (m_X7_refused (r := 1) hM rfl ⟨rfl, ?_⟩)
    refine k_ifeq 25 dX7_status_18 (by decide) (fun h18 => ?_) (fun h18 => ?_)
    · exact absurd h18 (by decide)
    · refine k_iconst (0) dX7_status_21 (by decide) ?_
      refine k_goto 34 dX7_status_22 (by decide) ?_
      refine k_iret dX7_status_34 rfl (rfl) ?_
      exact hN h7
  · obtain ⟨k, hk, ek⟩ := kf_within_nI (n := 4) rfl (by decide) h7
    refine k_iconst (0) dX7_status_10 (by decide) ?_
    refine k_goto 15 dX7_status_11 (by decide) ?_
    refine k_invV (As := [_]) dX7_status_15 mm_X7_refused wL_X7_34 ⟨by decide, by decide⟩ hM.1.1 hM.1.2 rfl rfl (Nat.le_of_ble_eq_true rfl) (Nat.zero_le _) (Nat.zero_le _) (m_X7_refused (r := 0) hM rfl ⟨rfl, ?_⟩)
    refine k_ifeq 25 dX7_status_18 (by decide) (fun h18 => ?_) (fun h18 => ?_)
    · refine k_aload_n 0 dX7_status_25 rfl rfl ?_
      refine k_getfield dX7_status_26 hc_X7 hM.1.1 hM.1.2 0 (by decide) wF_X7_7 rfl ?_
      refine k_bipush (12) dX7_status_29 (by decide) ?_
      refine k_iload_n 1 dX7_status_31 rfl rfl ?_
      refine k_iadd dX7_status_32 ?_
      refine k_ialoadN (12 + k) dX7_status_33 hM.2.1.1 hM.2.1.2 (kg_add (a := 12) rfl ek) (⟨by omega, by decide⟩) ?_
      refine k_iret dX7_status_34 rfl (rfl) ?_
      exact hQ k ek hk
    · exact absurd rfl h18

set_option maxRecDepth 100000 in
set_option maxHeartbeats 4000000 in
theorem m_X7_unfairness {X : kn_X} {σ : kn_S} {τ : kn_T} {z : kn_Z} {c n : Nat} {Q : kn_Q} {m : Nat} (hM : kn_isM z) (hm8 : σ 129 8 = nI m) (hm : 1 ≤ m ∧ m ≤ 8) (hQ : Q (.inl (some (.int (kg_gr (kn_up σ 128 4 0) m - kg_lf (kn_up σ 128 4 0) m m)))) (kn_up σ 128 4 0) τ z) : kn_Ev X MX7_unfairness [.ref 128] σ τ z c n Q := by
  refine kn_entry (by decide +kernel) rfl (Nat.le_of_ble_eq_true rfl) ?_
  show kn_Go X MX7_unfairness 0 [(0, .ref 128)] [] _ _ _ _ _ _
  have lp12 : ∀ r9 : Nat, ∀ j : Nat, j + r9 = m → kn_Go X MX7_unfairness 12 [(2, .int (nI j)), (1, .int (kg_lf (kn_up σ 128 4 0) m j)), (0, .ref 128)] [] (kn_up σ 128 4 0) τ z c n Q := by
    intro r9
    induction r9 with
    | zero =>
      intro j hj
      obtain rfl : j = m := by omega
      refine k_iload_n 2 dX7_unfairness_12 rfl rfl ?_
      refine k_aload_n 0 dX7_unfairness_13 rfl rfl ?_
      refine k_getfield dX7_unfairness_14 hc_X7 hM.1.1 hM.1.2 0 (by decide) wF_X7_7 rfl ?_
      refine k_bipush (8) dX7_unfairness_17 (by decide) ?_
      refine k_ialoadV (8) dX7_unfairness_19 hM.2.1.1 hM.2.1.2 (rfl) (⟨by omega, by decide⟩) (hm8) ?_
      refine k_icmpge 43 dX7_unfairness_20 (by decide) (fun h20 => ?_) (fun h20 => ?_)
      · refine k_aload_n 0 dX7_unfairness_43 rfl rfl ?_
        refine k_invV (As := []) dX7_unfairness_44 mm_X7_greatest wL_X7_70 ⟨by decide, by decide⟩ hM.1.1 hM.1.2 rfl rfl (Nat.le_of_ble_eq_true rfl) (Nat.zero_le _) (Nat.zero_le _) (m_X7_greatest hM hm8 hm ⟨rfl, ?_⟩)
        refine k_iload_n 1 dX7_unfairness_47 rfl rfl ?_
        refine k_isub dX7_unfairness_48 ?_
        refine k_iret dX7_unfairness_49 rfl (rfl) ?_
        exact hQ
      · exact absurd (nI_le (Nat.le_refl _) (by omega)) h20
    | succ r9 ih =>
      intro j hj
      refine k_iload_n 2 dX7_unfairness_12 rfl rfl ?_
      refine k_aload_n 0 dX7_unfairness_13 rfl rfl ?_
      refine k_getfield dX7_unfairness_14 hc_X7 hM.1.1 hM.1.2 0 (by decide) wF_X7_7 rfl ?_
      refine k_bipush (8) dX7_unfairness_17 (by decide) ?_
      refine k_ialoadV (8) dX7_unfairness_19 hM.2.1.1 hM.2.1.2 (rfl) (⟨by omega, by decide⟩) (hm8) ?_
      refine k_icmpge 43 dX7_unfairness_20 (by decide) (fun h20 => ?_) (fun h20 => ?_)
      · exact absurd h20 (nI_ge (by omega) (by omega))
      · refine k_iload_n 1 dX7_unfairness_23 rfl rfl ?_
        refine k_aload_n 0 dX7_unfairness_24 rfl rfl ?_
        refine k_getfield dX7_unfairness_25 hc_X7 hM.1.1 hM.1.2 0 (by decide) wF_X7_7 rfl ?_
        refine k_bipush (17) dX7_unfairness_28 (by decide) ?_
        refine k_iload_n 2 dX7_unfairness_30 rfl rfl ?_
        refine k_iadd dX7_unfairness_31 ?_
        refine k_ialoadN ((17 + j)) dX7_unfairness_32 hM.2.1.1 hM.2.1.2 ((kg_add rfl rfl)) (⟨by omega, by decide⟩) ?_
        refine k_invS (As := [_, _]) dX7_unfairness_33 mm_X7_lesser wL_X7_53 ⟨by decide, by decide⟩ rfl rfl (Nat.le_of_ble_eq_true rfl) (Nat.zero_le _) (Nat.zero_le _) (m_X7_lesser ⟨rfl, ?_⟩)
        refine k_istore_n 1 (lv' := [(1, _), (2, _), (0, _)]) dX7_unfairness_36 rfl (by decide) rfl ?_
        refine k_iinc (nI (j + 1)) (lv' := [(2, _), (1, _), (0, _)]) dX7_unfairness_37 rfl (kn_inc j) (by decide) rfl ?_
        refine k_goto 12 dX7_unfairness_40 (by decide) ?_
        exact ih (j + 1) (by omega)
  refine k_aload_n 0 dX7_unfairness_0 rfl rfl ?_
  refine k_iconst (0) dX7_unfairness_1 (by decide) ?_
  refine k_putfield dX7_unfairness_2 hc_X7 hM.1.1 hM.1.2 4 (by decide) wF_X7_27 rfl rfl (t9 := .int) (by decide +kernel) rfl rfl ?_
  refine k_aload_n 0 dX7_unfairness_5 rfl rfl ?_
  refine k_invV (As := []) dX7_unfairness_6 mm_X7_greatest wL_X7_70 ⟨by decide, by decide⟩ hM.1.1 hM.1.2 rfl rfl (Nat.le_of_ble_eq_true rfl) (Nat.zero_le _) (Nat.zero_le _) (m_X7_greatest (m := m) hM hm8 hm ⟨rfl, ?_⟩)
  refine k_istore_n 1 (lv' := [(1, _), (0, _)]) dX7_unfairness_9 rfl (by decide) rfl ?_
  refine k_iconst (0) dX7_unfairness_10 (by decide) ?_
  refine k_istore_n 2 (lv' := [(2, _), (1, _), (0, _)]) dX7_unfairness_11 rfl (by decide) rfl ?_
  exact lp12 m 0 (by omega)

set_option maxRecDepth 100000 in
set_option maxHeartbeats 4000000 in
theorem m_X7_events {X : kn_X} {σ : kn_S} {τ : kn_T} {z : kn_Z} {c n : Nat} {Q : kn_Q}  (hM : kn_isM z) (hQ : Q (.inl (some (.int (σ 129 73)))) (kn_up σ 128 4 0) τ z) : kn_Ev X MX7_events [.ref 128] σ τ z c n Q := by
  refine kn_entry (by decide +kernel) rfl (Nat.le_of_ble_eq_true rfl) ?_
  show kn_Go X MX7_events 0 [(0, .ref 128)] [] _ _ _ _ _ _
  refine k_aload_n 0 dX7_events_0 rfl rfl ?_
  refine k_iconst (0) dX7_events_1 (by decide) ?_
  refine k_putfield dX7_events_2 hc_X7 hM.1.1 hM.1.2 4 (by decide) wF_X7_27 rfl rfl (t9 := .int) (by decide +kernel) rfl rfl ?_
  refine k_aload_n 0 dX7_events_5 rfl rfl ?_
  refine k_getfield dX7_events_6 hc_X7 hM.1.1 hM.1.2 0 (by decide) wF_X7_7 rfl ?_
  refine k_bipush (73) dX7_events_9 (by decide) ?_
  refine k_ialoadN (73) dX7_events_11 hM.2.1.1 hM.2.1.2 (rfl) (⟨by omega, by decide⟩) ?_
  refine k_iret dX7_events_12 rfl (rfl) ?_
  exact hQ

set_option maxRecDepth 100000 in
set_option maxHeartbeats 4000000 in
theorem m_X7_event {X : kn_X} {σ : kn_S} {τ : kn_T} {z : kn_Z} {c n : Nat} {Q : kn_Q} {lc : Nat} {x y : Int32} (hM : kn_isM z) (hlc : σ 129 73 = nI lc) (hlc60 : lc ≤ 60) (hQ : ∀ j k, x = nI j → y = nI k → j < lc → k ≤ 2 → Q (.inl (some (.int (σ 129 (74 + 3 * j + k))))) (kn_up σ 128 4 0) τ z) (hNp : (kg_isN lc x) = 0 → Q (.inl (some (.int (0)))) (kn_up σ 128 4 1) τ z) (hN : ¬ (kg_isN lc x) = 0 → (kf_within y 0 2) = 0 → Q (.inl (some (.int (0)))) (kn_up σ 128 4 2) τ z) : kn_Ev X MX7_event [.ref 128, .int x, .int y] σ τ z c n Q := by
  refine kn_entry (by decide +kernel) rfl (Nat.le_of_ble_eq_true rfl) ?_
  show kn_Go X MX7_event 0 [(0, .ref 128), (1, .int x), (2, .int y)] [] _ _ _ _ _ _
  refine k_aload_n 0 dX7_event_0 rfl rfl ?_
  refine k_iload_n 1 dX7_event_1 rfl rfl ?_
  refine k_iconst (0) dX7_event_2 (by decide) ?_
  refine k_aload_n 0 dX7_event_3 rfl rfl ?_
  refine k_getfield dX7_event_4 hc_X7 hM.1.1 hM.1.2 0 (by decide) wF_X7_7 rfl ?_
  refine k_bipush (73) dX7_event_7 (by decide) ?_
  refine k_ialoadV (73) dX7_event_9 hM.2.1.1 hM.2.1.2 (rfl) (⟨by omega, by decide⟩) (hlc) ?_
  refine k_iconst (1) dX7_event_10 (by decide) ?_
  refine k_isub dX7_event_11 ?_
  refine k_invS (As := [_, _, _]) dX7_event_12 mm_X7_within wL_X7_38 ⟨by decide, by decide⟩ rfl rfl (Nat.le_of_ble_eq_true rfl) (Nat.zero_le _) (Nat.zero_le _) (m_X7_within ⟨rfl, ?_⟩)
  refine k_ifne 22 dX7_event_15 (by decide) (fun h15 => ?_) (fun h15 => ?_)
  · have h15 : ¬ kg_isN lc x = 0 := h15
    obtain ⟨j, hj, ej⟩ := kg_isN_nI (by omega) h15
    refine k_iload_n 2 dX7_event_22 rfl rfl ?_
    refine k_iconst (0) dX7_event_23 (by decide) ?_
    refine k_iconst (2) dX7_event_24 (by decide) ?_
    refine k_invS (As := [_, _, _]) dX7_event_25 mm_X7_within wL_X7_38 ⟨by decide, by decide⟩ rfl rfl (Nat.le_of_ble_eq_true rfl) (Nat.zero_le _) (Nat.zero_le _) (m_X7_within ⟨rfl, ?_⟩)
    refine k_ifeq 35 dX7_event_28 (by decide) (fun h28 => ?_) (fun h28 => ?_)
    · refine k_iconst (2) dX7_event_35 (by decide) ?_
      refine k_invV (As := [_]) dX7_event_36 mm_X7_refused wL_X7_34 ⟨by decide, by decide⟩ hM.1.1 hM.1.2 rfl rfl (Nat.le_of_ble_eq_true rfl) (Nat.zero_le _) (Nat.zero_le _) (m_X7_refused (r := 1) hM rfl ⟨rfl, ?_⟩)
      refine k_ifeq 46 dX7_event_39 (by decide) (fun h39 => ?_) (fun h39 => ?_)
      · exact absurd h39 (by decide)
      · refine k_iconst (0) dX7_event_42 (by decide) ?_
        refine k_goto 59 dX7_event_43 (by decide) ?_
        refine k_iret dX7_event_59 rfl (rfl) ?_
        exact hN h15 h28
    · obtain ⟨k, hk, ek⟩ := kf_within_nI (n := 2) rfl (by decide) h28
      refine k_iconst (0) dX7_event_31 (by decide) ?_
      refine k_goto 36 dX7_event_32 (by decide) ?_
      refine k_invV (As := [_]) dX7_event_36 mm_X7_refused wL_X7_34 ⟨by decide, by decide⟩ hM.1.1 hM.1.2 rfl rfl (Nat.le_of_ble_eq_true rfl) (Nat.zero_le _) (Nat.zero_le _) (m_X7_refused (r := 0) hM rfl ⟨rfl, ?_⟩)
      refine k_ifeq 46 dX7_event_39 (by decide) (fun h39 => ?_) (fun h39 => ?_)
      · refine k_aload_n 0 dX7_event_46 rfl rfl ?_
        refine k_getfield dX7_event_47 hc_X7 hM.1.1 hM.1.2 0 (by decide) wF_X7_7 rfl ?_
        refine k_bipush (74) dX7_event_50 (by decide) ?_
        refine k_iconst (3) dX7_event_52 (by decide) ?_
        refine k_iload_n 1 dX7_event_53 rfl rfl ?_
        refine k_imul dX7_event_54 ?_
        refine k_iadd dX7_event_55 ?_
        refine k_iload_n 2 dX7_event_56 rfl rfl ?_
        refine k_iadd dX7_event_57 ?_
        refine k_ialoadN (74 + 3 * j + k) dX7_event_58 hM.2.1.1 hM.2.1.2 (kg_add (kg_add (a := 74) rfl (kg_mul (a := 3) rfl ej)) ek) (⟨by omega, by decide⟩) ?_
        refine k_iret dX7_event_59 rfl (rfl) ?_
        exact hQ j k ej ek hj hk
      · exact absurd rfl h39
  · refine k_iconst (1) dX7_event_18 (by decide) ?_
    refine k_goto 36 dX7_event_19 (by decide) ?_
    refine k_invV (As := [_]) dX7_event_36 mm_X7_refused wL_X7_34 ⟨by decide, by decide⟩ hM.1.1 hM.1.2 rfl rfl (Nat.le_of_ble_eq_true rfl) (Nat.zero_le _) (Nat.zero_le _) (m_X7_refused (r := 1) hM rfl ⟨rfl, ?_⟩)
    refine k_ifeq 46 dX7_event_39 (by decide) (fun h39 => ?_) (fun h39 => ?_)
    · exact absurd h39 (by decide)
    · refine k_iconst (0) dX7_event_42 (by decide) ?_
      refine k_goto 59 dX7_event_43 (by decide) ?_
      refine k_iret dX7_event_59 rfl (rfl) ?_
      exact hNp h15

set_option maxRecDepth 100000 in
set_option maxHeartbeats 4000000 in
theorem m_X7_eventsOf {X : kn_X} {σ : kn_S} {τ : kn_T} {z : kn_Z} {c n : Nat} {Q : kn_Q} {lc : Nat} {x : Int32} (hM : kn_isM z) (hlc : σ 129 73 = nI lc) (hlc60 : lc ≤ 60) (hQ : ¬ (kf_within x 0 4) = 0 → Q (.inl (some (.int (kg_evo (kn_up σ 128 4 0) x lc)))) (kn_up σ 128 4 0) τ z) (hN : (kf_within x 0 4) = 0 → Q (.inl (some (.int (0)))) (kn_up σ 128 4 1) τ z) : kn_Ev X MX7_eventsOf [.ref 128, .int x] σ τ z c n Q := by
  refine kn_entry (by decide +kernel) rfl (Nat.le_of_ble_eq_true rfl) ?_
  show kn_Go X MX7_eventsOf 0 [(0, .ref 128), (1, .int x)] [] _ _ _ _ _ _
  have lp27 : ∀ r9 : Nat, ∀ j : Nat, j + r9 = lc → Q (.inl (some (.int (kg_evo (kn_up σ 128 4 0) x lc)))) (kn_up σ 128 4 0) τ z → kn_Go X MX7_eventsOf 27 [(3, .int (nI j)), (2, .int (kg_evo (kn_up σ 128 4 0) x j)), (0, .ref 128), (1, .int x)] [] (kn_up σ 128 4 0) τ z c n Q := by
    intro r9
    induction r9 with
    | zero =>
      intro j hj hQ
      obtain rfl : j = lc := by omega
      refine k_iload_n 3 dX7_eventsOf_27 rfl rfl ?_
      refine k_aload_n 0 dX7_eventsOf_28 rfl rfl ?_
      refine k_getfield dX7_eventsOf_29 hc_X7 hM.1.1 hM.1.2 0 (by decide) wF_X7_7 rfl ?_
      refine k_bipush (73) dX7_eventsOf_32 (by decide) ?_
      refine k_ialoadV (73) dX7_eventsOf_34 hM.2.1.1 hM.2.1.2 (rfl) (⟨by omega, by decide⟩) (hlc) ?_
      refine k_icmpge 67 dX7_eventsOf_35 (by decide) (fun h35 => ?_) (fun h35 => ?_)
      · refine k_iload_n 2 dX7_eventsOf_67 rfl rfl ?_
        refine k_iret dX7_eventsOf_68 rfl (rfl) ?_
        exact hQ
      · exact absurd (nI_le (Nat.le_refl _) (by omega)) h35
    | succ r9 ih =>
      intro j hj hQ
      refine k_iload_n 3 dX7_eventsOf_27 rfl rfl ?_
      refine k_aload_n 0 dX7_eventsOf_28 rfl rfl ?_
      refine k_getfield dX7_eventsOf_29 hc_X7 hM.1.1 hM.1.2 0 (by decide) wF_X7_7 rfl ?_
      refine k_bipush (73) dX7_eventsOf_32 (by decide) ?_
      refine k_ialoadV (73) dX7_eventsOf_34 hM.2.1.1 hM.2.1.2 (rfl) (⟨by omega, by decide⟩) (hlc) ?_
      refine k_icmpge 67 dX7_eventsOf_35 (by decide) (fun h35 => ?_) (fun h35 => ?_)
      · exact absurd h35 (nI_ge (by omega) (by omega))
      · refine k_iload_n 2 dX7_eventsOf_38 rfl rfl ?_
        refine k_aload_n 0 dX7_eventsOf_39 rfl rfl ?_
        refine k_getfield dX7_eventsOf_40 hc_X7 hM.1.1 hM.1.2 0 (by decide) wF_X7_7 rfl ?_
        refine k_bipush (74) dX7_eventsOf_43 (by decide) ?_
        refine k_iconst (3) dX7_eventsOf_45 (by decide) ?_
        refine k_iload_n 3 dX7_eventsOf_46 rfl rfl ?_
        refine k_imul dX7_eventsOf_47 ?_
        refine k_iadd dX7_eventsOf_48 ?_
        refine k_ialoadN ((74 + (3 * j))) dX7_eventsOf_49 hM.2.1.1 hM.2.1.2 ((kg_add rfl (kg_mul rfl rfl))) (⟨by omega, by decide⟩) ?_
        refine k_iload_n 1 dX7_eventsOf_50 rfl rfl ?_
        refine k_icmpne 58 dX7_eventsOf_51 (by decide) (fun h51 => ?_) (fun h51 => ?_)
        · refine k_iconst (0) dX7_eventsOf_58 (by decide) ?_
          refine k_iadd dX7_eventsOf_59 ?_
          refine k_istore_n 2 (lv' := [(2, _), (3, _), (0, _), (1, _)]) dX7_eventsOf_60 rfl (by decide) rfl ?_
          refine k_iinc (nI (j + 1)) (lv' := [(3, _), (2, _), (0, _), (1, _)]) dX7_eventsOf_61 rfl (kn_inc j) (by decide) rfl ?_
          refine k_goto 27 dX7_eventsOf_64 (by decide) ?_
          have e9 : kg_evo (kn_up σ 128 4 0) x (j + 1) = kg_evo (kn_up σ 128 4 0) x j + (if (kn_up σ 128 4 0) 129 (74 + 3 * j) = x then 1 else 0) := rfl
          rw [if_neg h51] at e9
          have h9 := ih (j + 1) (by omega) hQ
          rw [e9] at h9
          exact h9
        · refine k_iconst (1) dX7_eventsOf_54 (by decide) ?_
          refine k_goto 59 dX7_eventsOf_55 (by decide) ?_
          refine k_iadd dX7_eventsOf_59 ?_
          refine k_istore_n 2 (lv' := [(2, _), (3, _), (0, _), (1, _)]) dX7_eventsOf_60 rfl (by decide) rfl ?_
          refine k_iinc (nI (j + 1)) (lv' := [(3, _), (2, _), (0, _), (1, _)]) dX7_eventsOf_61 rfl (kn_inc j) (by decide) rfl ?_
          refine k_goto 27 dX7_eventsOf_64 (by decide) ?_
          have e9 : kg_evo (kn_up σ 128 4 0) x (j + 1) = kg_evo (kn_up σ 128 4 0) x j + (if (kn_up σ 128 4 0) 129 (74 + 3 * j) = x then 1 else 0) := rfl
          rw [if_pos h51] at e9
          have h9 := ih (j + 1) (by omega) hQ
          rw [e9] at h9
          exact h9
  refine k_aload_n 0 dX7_eventsOf_0 rfl rfl ?_
  refine k_iload_n 1 dX7_eventsOf_1 rfl rfl ?_
  refine k_iconst (0) dX7_eventsOf_2 (by decide) ?_
  refine k_iconst (4) dX7_eventsOf_3 (by decide) ?_
  refine k_invS (As := [_, _, _]) dX7_eventsOf_4 mm_X7_within wL_X7_38 ⟨by decide, by decide⟩ rfl rfl (Nat.le_of_ble_eq_true rfl) (Nat.zero_le _) (Nat.zero_le _) (m_X7_within ⟨rfl, ?_⟩)
  refine k_ifeq 14 dX7_eventsOf_7 (by decide) (fun h7 => ?_) (fun h7 => ?_)
  · refine k_iconst (1) dX7_eventsOf_14 (by decide) ?_
    refine k_invV (As := [_]) dX7_eventsOf_15 mm_X7_refused wL_X7_34 ⟨by decide, by decide⟩ hM.1.1 hM.1.2 rfl rfl (Nat.le_of_ble_eq_true rfl) (Nat.zero_le _) (Nat.zero_le _) (m_X7_refused (r := 1) hM rfl ⟨rfl, ?_⟩)
    refine k_ifeq 23 dX7_eventsOf_18 (by decide) (fun h18 => ?_) (fun h18 => ?_)
    · exact absurd h18 (by decide)
    · refine k_iconst (0) dX7_eventsOf_21 (by decide) ?_
      refine k_iret dX7_eventsOf_22 rfl (rfl) ?_
      exact hN h7
  · refine k_iconst (0) dX7_eventsOf_10 (by decide) ?_
    refine k_goto 15 dX7_eventsOf_11 (by decide) ?_
    refine k_invV (As := [_]) dX7_eventsOf_15 mm_X7_refused wL_X7_34 ⟨by decide, by decide⟩ hM.1.1 hM.1.2 rfl rfl (Nat.le_of_ble_eq_true rfl) (Nat.zero_le _) (Nat.zero_le _) (m_X7_refused (r := 0) hM rfl ⟨rfl, ?_⟩)
    refine k_ifeq 23 dX7_eventsOf_18 (by decide) (fun h18 => ?_) (fun h18 => ?_)
    · refine k_iconst (0) dX7_eventsOf_23 (by decide) ?_
      refine k_istore_n 2 (lv' := [(2, _), (0, _), (1, _)]) dX7_eventsOf_24 rfl (by decide) rfl ?_
      refine k_iconst (0) dX7_eventsOf_25 (by decide) ?_
      refine k_istore_n 3 (lv' := [(3, _), (2, _), (0, _), (1, _)]) dX7_eventsOf_26 rfl (by decide) rfl ?_
      exact lp27 lc 0 (by omega) (hQ h7)
    · exact absurd rfl h18

set_option maxRecDepth 100000 in
set_option maxHeartbeats 4000000 in
theorem m_m_X7_limit_n {X : kn_X} {σ : kn_S} {τ : kn_T} {z : kn_Z} {c n : Nat} {Q : kn_Q} {x y w v : Int32} (hM : kn_isM z) (hx : x = -1) (hQ : ¬ kf_isOp y w = 0 → ¬ kf_within v 80 110 = 0 → Q (.inl (some (.int (kf_klim y w v)))) (kn_up σ 128 4 0) τ z) (hN : (kf_isOp y w = 0 ∨ kf_within v 80 110 = 0) → Q (.inl (some (.int (0)))) (kn_up σ 128 4 2) τ z) : kn_Ev X MX7_limit [.ref 128, .int x, .int y, .int w, .int v] σ τ z c n Q := by
  refine kn_entry (by decide +kernel) rfl (Nat.le_of_ble_eq_true rfl) ?_
  show kn_Go X MX7_limit 0 [(0, .ref 128), (1, .int x), (2, .int y), (3, .int w), (4, .int v)] [] _ _ _ _ _ _
  refine k_iload_n 2 dX7_limit_0 rfl rfl ?_
  refine k_iload_n 3 dX7_limit_1 rfl rfl ?_
  refine k_invS (As := [_, _]) dX7_limit_2 mm_X7_isPoint wL_X7_111 ⟨by decide, by decide⟩ rfl rfl (Nat.le_of_ble_eq_true rfl) (Nat.zero_le _) (Nat.zero_le _) (m_X7_isPoint ⟨rfl, ?_⟩)
  refine k_ifeq 20 dX7_limit_5 (by decide) (fun h5 => ?_) (fun h5 => ?_)
  · refine k_iconst (0) dX7_limit_20 (by decide) ?_
    refine k_istore (lv' := [(5, _), (0, _), (1, _), (2, _), (3, _), (4, _)]) dX7_limit_21 (by decide) rfl ?_
    refine k_aload_n 0 dX7_limit_23 rfl rfl ?_
    refine k_iload_n 1 dX7_limit_24 rfl rfl ?_
    refine k_iconst (-1) dX7_limit_25 (by decide) ?_
    refine k_icmpeq 41 dX7_limit_26 (by decide) (fun h26 => ?_) (fun h26 => ?_)
    · refine k_iload dX7_limit_41 rfl ?_
      refine k_ifeq 50 dX7_limit_43 (by decide) (fun h43 => ?_) (fun h43 => ?_)
      · refine k_iconst (2) dX7_limit_50 (by decide) ?_
        refine k_invV (As := [_]) dX7_limit_51 mm_X7_refused wL_X7_34 ⟨by decide, by decide⟩ hM.1.1 hM.1.2 rfl rfl (Nat.le_of_ble_eq_true rfl) (Nat.zero_le _) (Nat.zero_le _) (m_X7_refused (r := 1) hM rfl ⟨rfl, ?_⟩)
        refine k_ifeq 59 dX7_limit_54 (by decide) (fun h54 => ?_) (fun h54 => ?_)
        · exact absurd h54 (by decide)
        · refine k_iconst (0) dX7_limit_57 (by decide) ?_
          refine k_iret dX7_limit_58 rfl (rfl) ?_
          first
            | exact hN (Or.inl (by assumption))
            | exact hN (Or.inr (by assumption))
      · exact absurd rfl h43
    · exact absurd hx h26
  · refine k_iload dX7_limit_8 rfl ?_
    refine k_invS (As := [_]) dX7_limit_10 mm_X7_isOctane wL_X7_114 ⟨by decide, by decide⟩ rfl rfl (Nat.le_of_ble_eq_true rfl) (Nat.zero_le _) (Nat.zero_le _) (m_X7_isOctane ⟨rfl, ?_⟩)
    refine k_ifeq 20 dX7_limit_13 (by decide) (fun h13 => ?_) (fun h13 => ?_)
    · refine k_iconst (0) dX7_limit_20 (by decide) ?_
      refine k_istore (lv' := [(5, _), (0, _), (1, _), (2, _), (3, _), (4, _)]) dX7_limit_21 (by decide) rfl ?_
      refine k_aload_n 0 dX7_limit_23 rfl rfl ?_
      refine k_iload_n 1 dX7_limit_24 rfl rfl ?_
      refine k_iconst (-1) dX7_limit_25 (by decide) ?_
      refine k_icmpeq 41 dX7_limit_26 (by decide) (fun h26 => ?_) (fun h26 => ?_)
      · refine k_iload dX7_limit_41 rfl ?_
        refine k_ifeq 50 dX7_limit_43 (by decide) (fun h43 => ?_) (fun h43 => ?_)
        · refine k_iconst (2) dX7_limit_50 (by decide) ?_
          refine k_invV (As := [_]) dX7_limit_51 mm_X7_refused wL_X7_34 ⟨by decide, by decide⟩ hM.1.1 hM.1.2 rfl rfl (Nat.le_of_ble_eq_true rfl) (Nat.zero_le _) (Nat.zero_le _) (m_X7_refused (r := 1) hM rfl ⟨rfl, ?_⟩)
          refine k_ifeq 59 dX7_limit_54 (by decide) (fun h54 => ?_) (fun h54 => ?_)
          · exact absurd h54 (by decide)
          · refine k_iconst (0) dX7_limit_57 (by decide) ?_
            refine k_iret dX7_limit_58 rfl (rfl) ?_
            first
              | exact hN (Or.inl (by assumption))
              | exact hN (Or.inr (by assumption))
        · exact absurd rfl h43
      · exact absurd hx h26
    · refine k_iconst (1) dX7_limit_16 (by decide) ?_
      refine k_goto 21 dX7_limit_17 (by decide) ?_
      refine k_istore (lv' := [(5, _), (0, _), (1, _), (2, _), (3, _), (4, _)]) dX7_limit_21 (by decide) rfl ?_
      refine k_aload_n 0 dX7_limit_23 rfl rfl ?_
      refine k_iload_n 1 dX7_limit_24 rfl rfl ?_
      refine k_iconst (-1) dX7_limit_25 (by decide) ?_
      refine k_icmpeq 41 dX7_limit_26 (by decide) (fun h26 => ?_) (fun h26 => ?_)
      · refine k_iload dX7_limit_41 rfl ?_
        refine k_ifeq 50 dX7_limit_43 (by decide) (fun h43 => ?_) (fun h43 => ?_)
        · exact absurd h43 (by decide)
        · refine k_iconst (0) dX7_limit_46 (by decide) ?_
          refine k_goto 51 dX7_limit_47 (by decide) ?_
          refine k_invV (As := [_]) dX7_limit_51 mm_X7_refused wL_X7_34 ⟨by decide, by decide⟩ hM.1.1 hM.1.2 rfl rfl (Nat.le_of_ble_eq_true rfl) (Nat.zero_le _) (Nat.zero_le _) (m_X7_refused (r := 0) hM rfl ⟨rfl, ?_⟩)
          refine k_ifeq 59 dX7_limit_54 (by decide) (fun h54 => ?_) (fun h54 => ?_)
          · refine k_iload_n 2 dX7_limit_59 rfl rfl ?_
            refine k_iload_n 3 dX7_limit_60 rfl rfl ?_
            refine k_iload dX7_limit_61 rfl ?_
            refine k_invS (As := [_, _, _]) dX7_limit_63 mm_X7_knockLimit wL_X7_104 ⟨by decide, by decide⟩ rfl rfl (Nat.le_of_ble_eq_true rfl) (Nat.zero_le _) (Nat.zero_le _) (m_X7_knockLimit ⟨rfl, ?_⟩)
            refine k_istore (lv' := [(6, _), (5, _), (0, _), (1, _), (2, _), (3, _), (4, _)]) dX7_limit_66 (by decide) rfl ?_
            refine k_iload_n 1 dX7_limit_68 rfl rfl ?_
            refine k_iconst (-1) dX7_limit_69 (by decide) ?_
            refine k_icmpne 78 dX7_limit_70 (by decide) (fun h70 => ?_) (fun h70 => ?_)
            · exact absurd hx h70
            · refine k_iload dX7_limit_73 rfl ?_
              refine k_goto 88 dX7_limit_75 (by decide) ?_
              refine k_iret dX7_limit_88 rfl (rfl) ?_
              exact hQ h5 h13
          · exact absurd rfl h54
      · exact absurd hx h26

set_option maxRecDepth 100000 in
set_option maxHeartbeats 4000000 in
theorem m_m_X7_limit_c {X : kn_X} {σ : kn_S} {τ : kn_T} {z : kn_Z} {c n : Nat} {Q : kn_Q} {m cl : Nat} {x y w v : Int32} (hM : kn_isM z) (hm8 : σ 129 8 = nI m) (hm : 1 ≤ m ∧ m ≤ 8) (hx : ¬ x = -1) (hce : ¬ kf_isOp y w = 0 → kf_cell y w = nI cl ∧ cl < 24) (hQ : ∀ cc, x = nI cc → cc < m → ¬ kf_isOp y w = 0 → ¬ kf_within v 80 110 = 0 → Q (.inl (some (.int (100 + y / 50 - w - kg_ret (kn_up σ 128 4 0) cc cl - kf_klim y w v)))) (kn_up σ 128 4 0) τ z) (hNp : (kg_isN m x) = 0 → Q (.inl (some (.int (0)))) (kn_up σ 128 4 1) τ z) (hN : ¬ (kg_isN m x) = 0 → (kf_isOp y w = 0 ∨ kf_within v 80 110 = 0) → Q (.inl (some (.int (0)))) (kn_up σ 128 4 2) τ z) : kn_Ev X MX7_limit [.ref 128, .int x, .int y, .int w, .int v] σ τ z c n Q := by
  refine kn_entry (by decide +kernel) rfl (Nat.le_of_ble_eq_true rfl) ?_
  show kn_Go X MX7_limit 0 [(0, .ref 128), (1, .int x), (2, .int y), (3, .int w), (4, .int v)] [] _ _ _ _ _ _
  refine k_iload_n 2 dX7_limit_0 rfl rfl ?_
  refine k_iload_n 3 dX7_limit_1 rfl rfl ?_
  refine k_invS (As := [_, _]) dX7_limit_2 mm_X7_isPoint wL_X7_111 ⟨by decide, by decide⟩ rfl rfl (Nat.le_of_ble_eq_true rfl) (Nat.zero_le _) (Nat.zero_le _) (m_X7_isPoint ⟨rfl, ?_⟩)
  refine k_ifeq 20 dX7_limit_5 (by decide) (fun h5 => ?_) (fun h5 => ?_)
  · refine k_iconst (0) dX7_limit_20 (by decide) ?_
    refine k_istore (lv' := [(5, _), (0, _), (1, _), (2, _), (3, _), (4, _)]) dX7_limit_21 (by decide) rfl ?_
    refine k_aload_n 0 dX7_limit_23 rfl rfl ?_
    refine k_iload_n 1 dX7_limit_24 rfl rfl ?_
    refine k_iconst (-1) dX7_limit_25 (by decide) ?_
    refine k_icmpeq 41 dX7_limit_26 (by decide) (fun h26 => ?_) (fun h26 => ?_)
    · exact absurd h26 hx
    · refine k_aload_n 0 dX7_limit_29 rfl rfl ?_
      refine k_iload_n 1 dX7_limit_30 rfl rfl ?_
      refine k_invV (As := [_]) dX7_limit_31 mm_X7_isCylinder wL_X7_120 ⟨by decide, by decide⟩ hM.1.1 hM.1.2 rfl rfl (Nat.le_of_ble_eq_true rfl) (Nat.zero_le _) (Nat.zero_le _) (m_X7_isCylinder (m := m) hM hm8 hm ⟨rfl, ?_⟩)
      refine k_ifne 41 dX7_limit_34 (by decide) (fun h34 => ?_) (fun h34 => ?_)
      · obtain ⟨cc, hcc, ec⟩ := kg_isN_nI (by omega) h34
        subst ec
        refine k_iload dX7_limit_41 rfl ?_
        refine k_ifeq 50 dX7_limit_43 (by decide) (fun h43 => ?_) (fun h43 => ?_)
        · refine k_iconst (2) dX7_limit_50 (by decide) ?_
          refine k_invV (As := [_]) dX7_limit_51 mm_X7_refused wL_X7_34 ⟨by decide, by decide⟩ hM.1.1 hM.1.2 rfl rfl (Nat.le_of_ble_eq_true rfl) (Nat.zero_le _) (Nat.zero_le _) (m_X7_refused (r := 1) hM rfl ⟨rfl, ?_⟩)
          refine k_ifeq 59 dX7_limit_54 (by decide) (fun h54 => ?_) (fun h54 => ?_)
          · exact absurd h54 (by decide)
          · refine k_iconst (0) dX7_limit_57 (by decide) ?_
            refine k_iret dX7_limit_58 rfl (rfl) ?_
            first
              | exact hNp h34
              | exact hN h34 (Or.inl (by assumption))
              | exact hN h34 (Or.inr (by assumption))
        · exact absurd rfl h43
      · refine k_iconst (1) dX7_limit_37 (by decide) ?_
        refine k_goto 51 dX7_limit_38 (by decide) ?_
        refine k_invV (As := [_]) dX7_limit_51 mm_X7_refused wL_X7_34 ⟨by decide, by decide⟩ hM.1.1 hM.1.2 rfl rfl (Nat.le_of_ble_eq_true rfl) (Nat.zero_le _) (Nat.zero_le _) (m_X7_refused (r := 1) hM rfl ⟨rfl, ?_⟩)
        refine k_ifeq 59 dX7_limit_54 (by decide) (fun h54 => ?_) (fun h54 => ?_)
        · exact absurd h54 (by decide)
        · refine k_iconst (0) dX7_limit_57 (by decide) ?_
          refine k_iret dX7_limit_58 rfl (rfl) ?_
          first
            | exact hNp h34
            | exact hN h34 (Or.inl (by assumption))
            | exact hN h34 (Or.inr (by assumption))
  · refine k_iload dX7_limit_8 rfl ?_
    refine k_invS (As := [_]) dX7_limit_10 mm_X7_isOctane wL_X7_114 ⟨by decide, by decide⟩ rfl rfl (Nat.le_of_ble_eq_true rfl) (Nat.zero_le _) (Nat.zero_le _) (m_X7_isOctane ⟨rfl, ?_⟩)
    refine k_ifeq 20 dX7_limit_13 (by decide) (fun h13 => ?_) (fun h13 => ?_)
    · refine k_iconst (0) dX7_limit_20 (by decide) ?_
      refine k_istore (lv' := [(5, _), (0, _), (1, _), (2, _), (3, _), (4, _)]) dX7_limit_21 (by decide) rfl ?_
      refine k_aload_n 0 dX7_limit_23 rfl rfl ?_
      refine k_iload_n 1 dX7_limit_24 rfl rfl ?_
      refine k_iconst (-1) dX7_limit_25 (by decide) ?_
      refine k_icmpeq 41 dX7_limit_26 (by decide) (fun h26 => ?_) (fun h26 => ?_)
      · exact absurd h26 hx
      · refine k_aload_n 0 dX7_limit_29 rfl rfl ?_
        refine k_iload_n 1 dX7_limit_30 rfl rfl ?_
        refine k_invV (As := [_]) dX7_limit_31 mm_X7_isCylinder wL_X7_120 ⟨by decide, by decide⟩ hM.1.1 hM.1.2 rfl rfl (Nat.le_of_ble_eq_true rfl) (Nat.zero_le _) (Nat.zero_le _) (m_X7_isCylinder (m := m) hM hm8 hm ⟨rfl, ?_⟩)
        refine k_ifne 41 dX7_limit_34 (by decide) (fun h34 => ?_) (fun h34 => ?_)
        · obtain ⟨cc, hcc, ec⟩ := kg_isN_nI (by omega) h34
          subst ec
          refine k_iload dX7_limit_41 rfl ?_
          refine k_ifeq 50 dX7_limit_43 (by decide) (fun h43 => ?_) (fun h43 => ?_)
          · refine k_iconst (2) dX7_limit_50 (by decide) ?_
            refine k_invV (As := [_]) dX7_limit_51 mm_X7_refused wL_X7_34 ⟨by decide, by decide⟩ hM.1.1 hM.1.2 rfl rfl (Nat.le_of_ble_eq_true rfl) (Nat.zero_le _) (Nat.zero_le _) (m_X7_refused (r := 1) hM rfl ⟨rfl, ?_⟩)
            refine k_ifeq 59 dX7_limit_54 (by decide) (fun h54 => ?_) (fun h54 => ?_)
            · exact absurd h54 (by decide)
            · refine k_iconst (0) dX7_limit_57 (by decide) ?_
              refine k_iret dX7_limit_58 rfl (rfl) ?_
              first
                | exact hNp h34
                | exact hN h34 (Or.inl (by assumption))
                | exact hN h34 (Or.inr (by assumption))
          · exact absurd rfl h43
        · refine k_iconst (1) dX7_limit_37 (by decide) ?_
          refine k_goto 51 dX7_limit_38 (by decide) ?_
          refine k_invV (As := [_]) dX7_limit_51 mm_X7_refused wL_X7_34 ⟨by decide, by decide⟩ hM.1.1 hM.1.2 rfl rfl (Nat.le_of_ble_eq_true rfl) (Nat.zero_le _) (Nat.zero_le _) (m_X7_refused (r := 1) hM rfl ⟨rfl, ?_⟩)
          refine k_ifeq 59 dX7_limit_54 (by decide) (fun h54 => ?_) (fun h54 => ?_)
          · exact absurd h54 (by decide)
          · refine k_iconst (0) dX7_limit_57 (by decide) ?_
            refine k_iret dX7_limit_58 rfl (rfl) ?_
            first
              | exact hNp h34
              | exact hN h34 (Or.inl (by assumption))
              | exact hN h34 (Or.inr (by assumption))
    · refine k_iconst (1) dX7_limit_16 (by decide) ?_
      refine k_goto 21 dX7_limit_17 (by decide) ?_
      refine k_istore (lv' := [(5, _), (0, _), (1, _), (2, _), (3, _), (4, _)]) dX7_limit_21 (by decide) rfl ?_
      refine k_aload_n 0 dX7_limit_23 rfl rfl ?_
      refine k_iload_n 1 dX7_limit_24 rfl rfl ?_
      refine k_iconst (-1) dX7_limit_25 (by decide) ?_
      refine k_icmpeq 41 dX7_limit_26 (by decide) (fun h26 => ?_) (fun h26 => ?_)
      · exact absurd h26 hx
      · refine k_aload_n 0 dX7_limit_29 rfl rfl ?_
        refine k_iload_n 1 dX7_limit_30 rfl rfl ?_
        refine k_invV (As := [_]) dX7_limit_31 mm_X7_isCylinder wL_X7_120 ⟨by decide, by decide⟩ hM.1.1 hM.1.2 rfl rfl (Nat.le_of_ble_eq_true rfl) (Nat.zero_le _) (Nat.zero_le _) (m_X7_isCylinder (m := m) hM hm8 hm ⟨rfl, ?_⟩)
        refine k_ifne 41 dX7_limit_34 (by decide) (fun h34 => ?_) (fun h34 => ?_)
        · obtain ⟨cc, hcc, ec⟩ := kg_isN_nI (by omega) h34
          subst ec
          refine k_iload dX7_limit_41 rfl ?_
          refine k_ifeq 50 dX7_limit_43 (by decide) (fun h43 => ?_) (fun h43 => ?_)
          · exact absurd h43 (by decide)
          · refine k_iconst (0) dX7_limit_46 (by decide) ?_
            refine k_goto 51 dX7_limit_47 (by decide) ?_
            refine k_invV (As := [_]) dX7_limit_51 mm_X7_refused wL_X7_34 ⟨by decide, by decide⟩ hM.1.1 hM.1.2 rfl rfl (Nat.le_of_ble_eq_true rfl) (Nat.zero_le _) (Nat.zero_le _) (m_X7_refused (r := 0) hM rfl ⟨rfl, ?_⟩)
            refine k_ifeq 59 dX7_limit_54 (by decide) (fun h54 => ?_) (fun h54 => ?_)
            · refine k_iload_n 2 dX7_limit_59 rfl rfl ?_
              refine k_iload_n 3 dX7_limit_60 rfl rfl ?_
              refine k_iload dX7_limit_61 rfl ?_
              refine k_invS (As := [_, _, _]) dX7_limit_63 mm_X7_knockLimit wL_X7_104 ⟨by decide, by decide⟩ rfl rfl (Nat.le_of_ble_eq_true rfl) (Nat.zero_le _) (Nat.zero_le _) (m_X7_knockLimit ⟨rfl, ?_⟩)
              refine k_istore (lv' := [(6, _), (5, _), (0, _), (1, _), (2, _), (3, _), (4, _)]) dX7_limit_66 (by decide) rfl ?_
              refine k_iload_n 1 dX7_limit_68 rfl rfl ?_
              refine k_iconst (-1) dX7_limit_69 (by decide) ?_
              refine k_icmpne 78 dX7_limit_70 (by decide) (fun h70 => ?_) (fun h70 => ?_)
              · refine k_aload_n 0 dX7_limit_78 rfl rfl ?_
                refine k_iload_n 1 dX7_limit_79 rfl rfl ?_
                refine k_iload_n 2 dX7_limit_80 rfl rfl ?_
                refine k_iload_n 3 dX7_limit_81 rfl rfl ?_
                refine k_invV (As := [_, _, _]) dX7_limit_82 mm_X7_advance wL_X7_100 ⟨by decide, by decide⟩ hM.1.1 hM.1.2 rfl rfl (Nat.le_of_ble_eq_true rfl) (Nat.zero_le _) (Nat.zero_le _) (m_X7_advance (cc := cc) (cl := cl) hM (by omega) (hce h5).2 (hce h5).1 ⟨rfl, ?_⟩)
                refine k_iload dX7_limit_85 rfl ?_
                refine k_isub dX7_limit_87 ?_
                refine k_iret dX7_limit_88 rfl (rfl) ?_
                exact hQ cc rfl hcc h5 h13
              · exact absurd h70 hx
            · exact absurd rfl h54
        · refine k_iconst (1) dX7_limit_37 (by decide) ?_
          refine k_goto 51 dX7_limit_38 (by decide) ?_
          refine k_invV (As := [_]) dX7_limit_51 mm_X7_refused wL_X7_34 ⟨by decide, by decide⟩ hM.1.1 hM.1.2 rfl rfl (Nat.le_of_ble_eq_true rfl) (Nat.zero_le _) (Nat.zero_le _) (m_X7_refused (r := 1) hM rfl ⟨rfl, ?_⟩)
          refine k_ifeq 59 dX7_limit_54 (by decide) (fun h54 => ?_) (fun h54 => ?_)
          · exact absurd h54 (by decide)
          · refine k_iconst (0) dX7_limit_57 (by decide) ?_
            refine k_iret dX7_limit_58 rfl (rfl) ?_
            first
              | exact hNp h34
              | exact hN h34 (Or.inl (by assumption))
              | exact hN h34 (Or.inr (by assumption))

set_option maxRecDepth 100000 in
set_option maxHeartbeats 4000000 in
theorem m_X7_append {X : kn_X} {σ : kn_S} {τ : kn_T} {z : kn_Z} {c n : Nat} {Q : kn_Q} {len : Nat} {x : Int32} (hM : kn_isM z) (hlen : σ 128 6 = nI len) (hl120 : len ≤ 120) (hQ : ¬ (kf_within x 0 127) = 0 → len < 120 → Q (.inl (some (.int (nI (len + 1))))) (kn_up (kn_up (kn_up σ 128 4 0) 132 len x) 128 6 (nI (len + 1))) τ z) (hN : (kf_within x 0 127) = 0 → Q (.inl (some (.int (0)))) (kn_up σ 128 4 1) τ z) (hN2 : ¬ (kf_within x 0 127) = 0 → len = 120 → Q (.inl (some (.int (0)))) (kn_up σ 128 4 2) τ z) : kn_Ev X MX7_append [.ref 128, .int x] σ τ z c n Q := by
  refine kn_entry (by decide +kernel) rfl (Nat.le_of_ble_eq_true rfl) ?_
  show kn_Go X MX7_append 0 [(0, .ref 128), (1, .int x)] [] _ _ _ _ _ _
  refine k_aload_n 0 dX7_append_0 rfl rfl ?_
  refine k_iload_n 1 dX7_append_1 rfl rfl ?_
  refine k_iconst (0) dX7_append_2 (by decide) ?_
  refine k_bipush (127) dX7_append_3 (by decide) ?_
  refine k_invS (As := [_, _, _]) dX7_append_5 mm_X7_within wL_X7_38 ⟨by decide, by decide⟩ rfl rfl (Nat.le_of_ble_eq_true rfl) (Nat.zero_le _) (Nat.zero_le _) (m_X7_within ⟨rfl, ?_⟩)
  refine k_ifne 15 dX7_append_8 (by decide) (fun h8 => ?_) (fun h8 => ?_)
  · refine k_aload_n 0 dX7_append_15 rfl rfl ?_
    refine k_getfield dX7_append_16 hc_X7 hM.1.1 hM.1.2 6 (by decide) wF_X7_142 rfl ?_
    refine k_bipush (120) dX7_append_19 (by decide) ?_
    refine k_icmpne 28 dX7_append_21 (by decide) (fun h21 => ?_) (fun h21 => ?_)
    · have hl : len < 120 := by
        rcases Nat.lt_or_ge len 120 with q | q
        · exact q
        · exact absurd (show σ 128 6 = 120 from hlen.trans (by rw [show len = 120 by omega]; rfl)) h21
      refine k_iconst (0) dX7_append_28 (by decide) ?_
      refine k_invV (As := [_]) dX7_append_29 mm_X7_refused wL_X7_34 ⟨by decide, by decide⟩ hM.1.1 hM.1.2 rfl rfl (Nat.le_of_ble_eq_true rfl) (Nat.zero_le _) (Nat.zero_le _) (m_X7_refused (r := 0) hM rfl ⟨rfl, ?_⟩)
      refine k_ifeq 37 dX7_append_32 (by decide) (fun h32 => ?_) (fun h32 => ?_)
      · refine k_aload_n 0 dX7_append_37 rfl rfl ?_
        refine k_getfield dX7_append_38 hc_X7 hM.1.1 hM.1.2 5 (by decide) wF_X7_19 rfl ?_
        refine k_aload_n 0 dX7_append_41 rfl rfl ?_
        refine k_getfield dX7_append_42 hc_X7 hM.1.1 hM.1.2 6 (by decide) wF_X7_142 rfl ?_
        rw [show kn_av (kn_up σ 128 4 0) τ 128 6 none = .int (nI len) from congrArg Value.int hlen]
        refine k_iload_n 1 dX7_append_45 rfl rfl ?_
        refine k_iastoreN (len) dX7_append_46 hM.2.2.2.2.1 hM.2.2.2.2.2 (rfl) (⟨by omega, by decide⟩) ?_
        refine k_aload_n 0 dX7_append_47 rfl rfl ?_
        refine k_dup dX7_append_48 rfl ?_
        refine k_getfield dX7_append_49 hc_X7 hM.1.1 hM.1.2 6 (by decide) wF_X7_142 rfl ?_
        rw [show kn_av (kn_up (kn_up σ 128 4 0) 132 len x) τ 128 6 none = .int (nI len) from congrArg Value.int hlen]
        refine k_iconst (1) dX7_append_52 (by decide) ?_
        refine k_iadd dX7_append_53 ?_
        rw [nI_1]
        refine k_putfield dX7_append_54 hc_X7 hM.1.1 hM.1.2 6 (by decide) wF_X7_142 rfl rfl (t9 := .int) (by decide +kernel) rfl rfl ?_
        refine k_aload_n 0 dX7_append_57 rfl rfl ?_
        refine k_getfield dX7_append_58 hc_X7 hM.1.1 hM.1.2 6 (by decide) wF_X7_142 rfl ?_
        refine k_iret dX7_append_61 rfl (rfl) ?_
        exact hQ h8 hl
      · exact absurd rfl h32
    · refine k_iconst (2) dX7_append_24 (by decide) ?_
      refine k_goto 29 dX7_append_25 (by decide) ?_
      refine k_invV (As := [_]) dX7_append_29 mm_X7_refused wL_X7_34 ⟨by decide, by decide⟩ hM.1.1 hM.1.2 rfl rfl (Nat.le_of_ble_eq_true rfl) (Nat.zero_le _) (Nat.zero_le _) (m_X7_refused (r := 1) hM rfl ⟨rfl, ?_⟩)
      refine k_ifeq 37 dX7_append_32 (by decide) (fun h32 => ?_) (fun h32 => ?_)
      · exact absurd h32 (by decide)
      · refine k_iconst (0) dX7_append_35 (by decide) ?_
        refine k_iret dX7_append_36 rfl (rfl) ?_
        exact hN2 h8 ((nI_eq (b := 120) (by omega) (by decide)).mp (hlen ▸ h21))
  · refine k_iconst (1) dX7_append_11 (by decide) ?_
    refine k_goto 29 dX7_append_12 (by decide) ?_
    refine k_invV (As := [_]) dX7_append_29 mm_X7_refused wL_X7_34 ⟨by decide, by decide⟩ hM.1.1 hM.1.2 rfl rfl (Nat.le_of_ble_eq_true rfl) (Nat.zero_le _) (Nat.zero_le _) (m_X7_refused (r := 1) hM rfl ⟨rfl, ?_⟩)
    refine k_ifeq 37 dX7_append_32 (by decide) (fun h32 => ?_) (fun h32 => ?_)
    · exact absurd h32 (by decide)
    · refine k_iconst (0) dX7_append_35 (by decide) ?_
      refine k_iret dX7_append_36 rfl (rfl) ?_
      exact hN h8

set_option maxRecDepth 100000 in
set_option maxHeartbeats 4000000 in
theorem m_X7_clearText {X : kn_X} {σ : kn_S} {τ : kn_T} {z : kn_Z} {c n : Nat} {Q : kn_Q}  (hM : kn_isM z) (hQ : Q (.inl (some (.int (σ 128 6)))) (kn_up (kn_up σ 128 4 0) 128 6 0) τ z) : kn_Ev X MX7_clearText [.ref 128] σ τ z c n Q := by
  refine kn_entry (by decide +kernel) rfl (Nat.le_of_ble_eq_true rfl) ?_
  show kn_Go X MX7_clearText 0 [(0, .ref 128)] [] _ _ _ _ _ _
  refine k_aload_n 0 dX7_clearText_0 rfl rfl ?_
  refine k_iconst (0) dX7_clearText_1 (by decide) ?_
  refine k_putfield dX7_clearText_2 hc_X7 hM.1.1 hM.1.2 4 (by decide) wF_X7_27 rfl rfl (t9 := .int) (by decide +kernel) rfl rfl ?_
  refine k_aload_n 0 dX7_clearText_5 rfl rfl ?_
  refine k_getfield dX7_clearText_6 hc_X7 hM.1.1 hM.1.2 6 (by decide) wF_X7_142 rfl ?_
  refine k_istore_n 1 (lv' := [(1, _), (0, _)]) dX7_clearText_9 rfl (by decide) rfl ?_
  refine k_aload_n 0 dX7_clearText_10 rfl rfl ?_
  refine k_iconst (0) dX7_clearText_11 (by decide) ?_
  refine k_putfield dX7_clearText_12 hc_X7 hM.1.1 hM.1.2 6 (by decide) wF_X7_142 rfl rfl (t9 := .int) (by decide +kernel) rfl rfl ?_
  refine k_iload_n 1 dX7_clearText_15 rfl rfl ?_
  refine k_iret dX7_clearText_16 rfl (rfl) ?_
  exact hQ

set_option maxRecDepth 100000 in
set_option maxHeartbeats 4000000 in
theorem m_X7_octane {X : kn_X} {σ : kn_S} {τ : kn_T} {z : kn_Z} {c n : Nat} {Q : kn_Q} {x : Int32} (hM : kn_isM z) (h1 : ∀ k, x = nI k → k ≤ 3 → ¬ (kg_oc (kn_up σ 128 4 0) k 6).2 = 0 → vf_n64 (FP.ddiv (FP.i2d (kg_oc (kn_up σ 128 4 0) k 6).1) (FP.i2d (kg_oc (kn_up σ 128 4 0) k 6).2)) ∧ vf_n64 (FP.ddiv (FP.ddiv (FP.i2d (kg_oc (kn_up σ 128 4 0) k 6).1) (FP.i2d (kg_oc (kn_up σ 128 4 0) k 6).2)) 4611686018427387904) ∧ vf_n64 (FP.dsub 4636737291354636288 (FP.ddiv (FP.ddiv (FP.i2d (kg_oc (kn_up σ 128 4 0) k 6).1) (FP.i2d (kg_oc (kn_up σ 128 4 0) k 6).2)) 4611686018427387904))) (hQ : ∀ k, x = nI k → k ≤ 3 → Q (.inl (some (.double (kg_ocR (kg_oc (kn_up σ 128 4 0) k 6))))) (kn_up σ 128 4 0) τ z) (hN : (kf_within x 0 3) = 0 → Q (.inl (some (.double 0))) (kn_up σ 128 4 1) τ z) : kn_Ev X MX7_octane [.ref 128, .int x] σ τ z c n Q := by
  refine kn_entry (by decide +kernel) rfl (Nat.le_of_ble_eq_true rfl) ?_
  show kn_Go X MX7_octane 0 [(0, .ref 128), (1, .int x)] [] _ _ _ _ _ _
  have lp30 : ∀ r9 : Nat, ∀ j k : Nat, j + r9 = 6 → x = nI k → k ≤ 3 → kn_Go X MX7_octane 30 [(4, .int (nI j)), (3, .int (kg_oc (kn_up σ 128 4 0) k j).1), (2, .int (kg_oc (kn_up σ 128 4 0) k j).2), (0, .ref 128), (1, .int x)] [] (kn_up σ 128 4 0) τ z c n Q := by
    intro r9
    induction r9 with
    | zero =>
      intro j k hj ek hk
      obtain rfl : j = 6 := by omega
      refine k_iload dX7_octane_30 rfl ?_
      refine k_bipush (6) dX7_octane_32 (by decide) ?_
      refine k_icmpge 77 dX7_octane_34 (by decide) (fun h34 => ?_) (fun h34 => ?_)
      · refine k_iload_n 2 dX7_octane_77 rfl rfl ?_
        refine k_ifne 87 dX7_octane_78 (by decide) (fun h78 => ?_) (fun h78 => ?_)
        · refine k_ldc2d dX7_octane_87 wK_X7_132 ?_
          refine k_iload_n 3 dX7_octane_90 rfl rfl ?_
          refine k_i2d dX7_octane_91 ?_
          refine k_iload_n 2 dX7_octane_92 rfl rfl ?_
          refine k_i2d dX7_octane_93 ?_
          refine k_ddiv dX7_octane_94 ((h1 k ek hk h78).1) ?_
          refine k_ldc2d dX7_octane_95 wK_X7_134 ?_
          refine k_ddiv dX7_octane_98 ((h1 k ek hk h78).2.1) ?_
          refine k_dsub dX7_octane_99 ((h1 k ek hk h78).2.2) ?_
          refine k_dret dX7_octane_100 rfl ?_
          have h9 := hQ k ek hk
          rw [kg_ocR, if_neg h78] at h9
          exact h9
        · refine k_ldc2d dX7_octane_81 wK_X7_132 ?_
          refine k_goto 100 dX7_octane_84 (by decide) ?_
          refine k_dret dX7_octane_100 rfl ?_
          have h9 := hQ k ek hk
          rw [kg_ocR, if_pos h78] at h9
          exact h9
      · exact absurd (nI_le (Nat.le_refl 6) (by decide)) h34
    | succ r9 ih =>
      intro j k hj ek hk
      refine k_iload dX7_octane_30 rfl ?_
      refine k_bipush (6) dX7_octane_32 (by decide) ?_
      refine k_icmpge 77 dX7_octane_34 (by decide) (fun h34 => ?_) (fun h34 => ?_)
      · exact absurd h34 (nI_ge (b := 6) (by omega) (by decide))
      · refine k_aload_n 0 dX7_octane_37 rfl rfl ?_
        refine k_getfield dX7_octane_38 hc_X7 hM.1.1 hM.1.2 0 (by decide) wF_X7_7 rfl ?_
        refine k_bipush (49) dX7_octane_41 (by decide) ?_
        refine k_iconst (4) dX7_octane_43 (by decide) ?_
        refine k_iload dX7_octane_44 rfl ?_
        refine k_imul dX7_octane_46 ?_
        refine k_iadd dX7_octane_47 ?_
        refine k_iload_n 1 dX7_octane_48 rfl rfl ?_
        refine k_iadd dX7_octane_49 ?_
        refine k_ialoadN (49 + 4 * j + k) dX7_octane_50 hM.2.1.1 hM.2.1.2 (kg_add (kg_add (a := 49) rfl (kg_mul (a := 4) rfl rfl)) ek) (⟨by omega, by decide⟩) ?_
        refine k_istore (lv' := [(5, _), (4, _), (3, _), (2, _), (0, _), (1, _)]) dX7_octane_51 (by decide) rfl ?_
        refine k_iload_n 2 dX7_octane_53 rfl rfl ?_
        refine k_iload dX7_octane_54 rfl ?_
        refine k_ifle 63 dX7_octane_56 (by decide) (fun h56 => ?_) (fun h56 => ?_)
        · refine k_iconst (0) dX7_octane_63 (by decide) ?_
          refine k_iadd dX7_octane_64 ?_
          refine k_istore_n 2 (lv' := [(2, _), (5, _), (4, _), (3, _), (0, _), (1, _)]) dX7_octane_65 rfl (by decide) rfl ?_
          refine k_iload_n 3 dX7_octane_66 rfl rfl ?_
          refine k_iload dX7_octane_67 rfl ?_
          refine k_iadd dX7_octane_69 ?_
          refine k_istore_n 3 (lv' := [(3, _), (2, _), (5, _), (4, _), (0, _), (1, _)]) dX7_octane_70 rfl (by decide) rfl ?_
          refine k_iinc (nI (j + 1)) (lv' := [(4, _), (3, _), (2, _), (5, _), (0, _), (1, _)]) dX7_octane_71 rfl (kn_inc j) (by decide) rfl ?_
          refine k_goto 30 dX7_octane_74 (by decide) ?_
          refine k_re [4, 3, 2, 0, 1] (lv' := [(4, _), (3, _), (2, _), (0, _), (1, _)]) rfl ?_
          have e9 : kg_oc (kn_up σ 128 4 0) k (j + 1) = ((kg_oc (kn_up σ 128 4 0) k j).1 + (kn_up σ 128 4 0) 129 (49 + 4 * j + k), (kg_oc (kn_up σ 128 4 0) k j).2 + (if (kn_up σ 128 4 0) 129 (49 + 4 * j + k) ≤ 0 then 0 else 1)) := rfl
          rw [if_pos h56] at e9
          have h9 := ih (j + 1) k (by omega) ek hk
          rw [e9] at h9
          exact h9
        · refine k_iconst (1) dX7_octane_59 (by decide) ?_
          refine k_goto 64 dX7_octane_60 (by decide) ?_
          refine k_iadd dX7_octane_64 ?_
          refine k_istore_n 2 (lv' := [(2, _), (5, _), (4, _), (3, _), (0, _), (1, _)]) dX7_octane_65 rfl (by decide) rfl ?_
          refine k_iload_n 3 dX7_octane_66 rfl rfl ?_
          refine k_iload dX7_octane_67 rfl ?_
          refine k_iadd dX7_octane_69 ?_
          refine k_istore_n 3 (lv' := [(3, _), (2, _), (5, _), (4, _), (0, _), (1, _)]) dX7_octane_70 rfl (by decide) rfl ?_
          refine k_iinc (nI (j + 1)) (lv' := [(4, _), (3, _), (2, _), (5, _), (0, _), (1, _)]) dX7_octane_71 rfl (kn_inc j) (by decide) rfl ?_
          refine k_goto 30 dX7_octane_74 (by decide) ?_
          refine k_re [4, 3, 2, 0, 1] (lv' := [(4, _), (3, _), (2, _), (0, _), (1, _)]) rfl ?_
          have e9 : kg_oc (kn_up σ 128 4 0) k (j + 1) = ((kg_oc (kn_up σ 128 4 0) k j).1 + (kn_up σ 128 4 0) 129 (49 + 4 * j + k), (kg_oc (kn_up σ 128 4 0) k j).2 + (if (kn_up σ 128 4 0) 129 (49 + 4 * j + k) ≤ 0 then 0 else 1)) := rfl
          rw [if_neg h56] at e9
          have h9 := ih (j + 1) k (by omega) ek hk
          rw [e9] at h9
          exact h9
  refine k_aload_n 0 dX7_octane_0 rfl rfl ?_
  refine k_iload_n 1 dX7_octane_1 rfl rfl ?_
  refine k_iconst (0) dX7_octane_2 (by decide) ?_
  refine k_iconst (3) dX7_octane_3 (by decide) ?_
  refine k_invS (As := [_, _, _]) dX7_octane_4 mm_X7_within wL_X7_38 ⟨by decide, by decide⟩ rfl rfl (Nat.le_of_ble_eq_true rfl) (Nat.zero_le _) (Nat.zero_le _) (m_X7_within ⟨rfl, ?_⟩)
  refine k_ifeq 14 dX7_octane_7 (by decide) (fun h7 => ?_) (fun h7 => ?_)
  · refine k_iconst (1) dX7_octane_14 (by decide) ?_
    refine k_invV (As := [_]) dX7_octane_15 mm_X7_refused wL_X7_34 ⟨by decide, by decide⟩ hM.1.1 hM.1.2 rfl rfl (Nat.le_of_ble_eq_true rfl) (Nat.zero_le _) (Nat.zero_le _) (m_X7_refused (r := 1) hM rfl ⟨rfl, ?_⟩)
    refine k_ifeq 23 dX7_octane_18 (by decide) (fun h18 => ?_) (fun h18 => ?_)
    · exact absurd h18 (by decide)
    · refine k_dconst0 dX7_octane_21 ?_
      refine k_dret dX7_octane_22 rfl ?_
      exact hN h7
  · refine k_iconst (0) dX7_octane_10 (by decide) ?_
    refine k_goto 15 dX7_octane_11 (by decide) ?_
    refine k_invV (As := [_]) dX7_octane_15 mm_X7_refused wL_X7_34 ⟨by decide, by decide⟩ hM.1.1 hM.1.2 rfl rfl (Nat.le_of_ble_eq_true rfl) (Nat.zero_le _) (Nat.zero_le _) (m_X7_refused (r := 0) hM rfl ⟨rfl, ?_⟩)
    refine k_ifeq 23 dX7_octane_18 (by decide) (fun h18 => ?_) (fun h18 => ?_)
    · refine k_iconst (0) dX7_octane_23 (by decide) ?_
      refine k_istore_n 2 (lv' := [(2, _), (0, _), (1, _)]) dX7_octane_24 rfl (by decide) rfl ?_
      refine k_iconst (0) dX7_octane_25 (by decide) ?_
      refine k_istore_n 3 (lv' := [(3, _), (2, _), (0, _), (1, _)]) dX7_octane_26 rfl (by decide) rfl ?_
      refine k_iconst (0) dX7_octane_27 (by decide) ?_
      refine k_istore (lv' := [(4, _), (3, _), (2, _), (0, _), (1, _)]) dX7_octane_28 (by decide) rfl ?_
      obtain ⟨k, hk, ek⟩ := kf_within_nI (n := 3) rfl (by decide) h7
      exact lp30 6 0 k (by omega) ek hk
    · exact absurd rfl h18

set_option maxRecDepth 100000 in
set_option maxHeartbeats 4000000 in
theorem m_m_X7_extreme_c {X : kn_X} {σ : kn_S} {τ : kn_T} {z : kn_Z} {c n : Nat} {Q : kn_Q} {x w v : Int32} (hM : kn_isM z) (hw : w = 0) (hQ : ∀ k, x = nI k → k ≤ 3 → Q (.inl (some (.int (kg_exf (kn_up σ 128 4 0) (fun j => nI j - nI j / 4 * 4) x v (σ 129 (49 + k)) 24)))) (kn_up σ 128 4 0) τ z) (hN : (kf_within x 0 3) = 0 → Q (.inl (some (.int (0)))) (kn_up σ 128 4 1) τ z) : kn_Ev X MX7_extreme [.ref 128, .int x, .int w, .int v] σ τ z c n Q := by
  refine kn_entry (by decide +kernel) rfl (Nat.le_of_ble_eq_true rfl) ?_
  show kn_Go X MX7_extreme 0 [(0, .ref 128), (1, .int x), (2, .int w), (3, .int v)] [] _ _ _ _ _ _
  have lp55 : ∀ r9 : Nat, ∀ j k : Nat, j + r9 = 24 → x = nI k → k ≤ 3 → kn_Go X MX7_extreme 55 [(5, .int (nI j)), (4, .int (kg_exf (kn_up σ 128 4 0) (fun j => nI j - nI j / 4 * 4) x v (σ 129 (49 + k)) j)), (0, .ref 128), (1, .int x), (2, .int w), (3, .int v)] [] (kn_up σ 128 4 0) τ z c n Q := by
    intro r9
    induction r9 with
    | zero =>
      intro j k hj ek hk
      obtain rfl : j = 24 := by omega
      refine k_iload dX7_extreme_55 rfl ?_
      refine k_bipush (24) dX7_extreme_57 (by decide) ?_
      refine k_icmpge 129 dX7_extreme_59 (by decide) (fun h59 => ?_) (fun h59 => ?_)
      · refine k_iload dX7_extreme_129 rfl ?_
        refine k_iret dX7_extreme_131 rfl (rfl) ?_
        exact hQ k ek hk
      · exact absurd (nI_le (Nat.le_refl 24) (by decide)) h59
    | succ r9 ih =>
      intro j k hj ek hk
      refine k_iload dX7_extreme_55 rfl ?_
      refine k_bipush (24) dX7_extreme_57 (by decide) ?_
      refine k_icmpge 129 dX7_extreme_59 (by decide) (fun h59 => ?_) (fun h59 => ?_)
      · exact absurd h59 (nI_ge (b := 24) (by omega) (by decide))
      · refine k_aload_n 0 dX7_extreme_62 rfl rfl ?_
        refine k_getfield dX7_extreme_63 hc_X7 hM.1.1 hM.1.2 0 (by decide) wF_X7_7 rfl ?_
        refine k_bipush (49) dX7_extreme_66 (by decide) ?_
        refine k_iload dX7_extreme_68 rfl ?_
        refine k_iadd dX7_extreme_70 ?_
        refine k_ialoadN ((49 + j)) dX7_extreme_71 hM.2.1.1 hM.2.1.2 ((kg_add rfl rfl)) (⟨by omega, by decide⟩) ?_
        refine k_istore (lv' := [(6, _), (5, _), (4, _), (0, _), (1, _), (2, _), (3, _)]) dX7_extreme_72 (by decide) rfl ?_
        refine k_iload_n 2 dX7_extreme_74 rfl rfl ?_
        refine k_ifeq 85 dX7_extreme_75 (by decide) (fun h75 => ?_) (fun h75 => ?_)
        · refine k_iload dX7_extreme_85 rfl ?_
          refine k_iconst (4) dX7_extreme_87 (by decide) ?_
          refine k_irem dX7_extreme_88 (by decide) ?_
          refine k_iload_n 1 dX7_extreme_89 rfl rfl ?_
          refine k_icmpne 123 dX7_extreme_90 (by decide) (fun h90 => ?_) (fun h90 => ?_)
          · refine k_iinc (nI (j + 1)) (lv' := [(5, _), (6, _), (4, _), (0, _), (1, _), (2, _), (3, _)]) dX7_extreme_123 rfl (kn_inc j) (by decide) rfl ?_
            refine k_goto 55 dX7_extreme_126 (by decide) ?_
            refine k_re [5, 4, 0, 1, 2, 3] (lv' := [(5, _), (4, _), (0, _), (1, _), (2, _), (3, _)]) rfl ?_
            have h9 := ih (j + 1) k (by omega) ek hk
            dsimp only [kg_exf] at h9
            rw [if_neg h90] at h9
            exact h9
          · refine k_iload_n 3 dX7_extreme_93 rfl rfl ?_
            refine k_ifeq 114 dX7_extreme_94 (by decide) (fun h94 => ?_) (fun h94 => ?_)
            · refine k_iload dX7_extreme_114 rfl ?_
              refine k_iload dX7_extreme_116 rfl ?_
              refine k_invS (As := [_, _]) dX7_extreme_118 mm_X7_lesser wL_X7_53 ⟨by decide, by decide⟩ rfl rfl (Nat.le_of_ble_eq_true rfl) (Nat.zero_le _) (Nat.zero_le _) (m_X7_lesser ⟨rfl, ?_⟩)
              refine k_istore (lv' := [(4, _), (6, _), (5, _), (0, _), (1, _), (2, _), (3, _)]) dX7_extreme_121 (by decide) rfl ?_
              refine k_iinc (nI (j + 1)) (lv' := [(5, _), (4, _), (6, _), (0, _), (1, _), (2, _), (3, _)]) dX7_extreme_123 rfl (kn_inc j) (by decide) rfl ?_
              refine k_goto 55 dX7_extreme_126 (by decide) ?_
              refine k_re [5, 4, 0, 1, 2, 3] (lv' := [(5, _), (4, _), (0, _), (1, _), (2, _), (3, _)]) rfl ?_
              have h9 := ih (j + 1) k (by omega) ek hk
              dsimp only [kg_exf] at h9
              rw [if_pos h90, if_pos h94] at h9
              exact h9
            · refine k_iload dX7_extreme_97 rfl ?_
              refine k_iload dX7_extreme_99 rfl ?_
              refine k_icmple 109 dX7_extreme_101 (by decide) (fun h101 => ?_) (fun h101 => ?_)
              · refine k_iload dX7_extreme_109 rfl ?_
                refine k_goto 121 dX7_extreme_111 (by decide) ?_
                refine k_istore (lv' := [(4, _), (6, _), (5, _), (0, _), (1, _), (2, _), (3, _)]) dX7_extreme_121 (by decide) rfl ?_
                refine k_iinc (nI (j + 1)) (lv' := [(5, _), (4, _), (6, _), (0, _), (1, _), (2, _), (3, _)]) dX7_extreme_123 rfl (kn_inc j) (by decide) rfl ?_
                refine k_goto 55 dX7_extreme_126 (by decide) ?_
                refine k_re [5, 4, 0, 1, 2, 3] (lv' := [(5, _), (4, _), (0, _), (1, _), (2, _), (3, _)]) rfl ?_
                have h9 := ih (j + 1) k (by omega) ek hk
                dsimp only [kg_exf] at h9
                rw [if_pos h90, if_neg h94, if_pos h101] at h9
                exact h9
              · refine k_iload dX7_extreme_104 rfl ?_
                refine k_goto 121 dX7_extreme_106 (by decide) ?_
                refine k_istore (lv' := [(4, _), (6, _), (5, _), (0, _), (1, _), (2, _), (3, _)]) dX7_extreme_121 (by decide) rfl ?_
                refine k_iinc (nI (j + 1)) (lv' := [(5, _), (4, _), (6, _), (0, _), (1, _), (2, _), (3, _)]) dX7_extreme_123 rfl (kn_inc j) (by decide) rfl ?_
                refine k_goto 55 dX7_extreme_126 (by decide) ?_
                refine k_re [5, 4, 0, 1, 2, 3] (lv' := [(5, _), (4, _), (0, _), (1, _), (2, _), (3, _)]) rfl ?_
                have h9 := ih (j + 1) k (by omega) ek hk
                dsimp only [kg_exf] at h9
                rw [if_pos h90, if_neg h94, if_neg h101] at h9
                exact h9
        · exact absurd hw h75
  refine k_aload_n 0 dX7_extreme_0 rfl rfl ?_
  refine k_iload_n 1 dX7_extreme_1 rfl rfl ?_
  refine k_iconst (0) dX7_extreme_2 (by decide) ?_
  refine k_iload_n 2 dX7_extreme_3 rfl rfl ?_
  refine k_ifeq 11 dX7_extreme_4 (by decide) (fun h4 => ?_) (fun h4 => ?_)
  · refine k_iconst (3) dX7_extreme_11 (by decide) ?_
    refine k_invS (As := [_, _, _]) dX7_extreme_12 mm_X7_within wL_X7_38 ⟨by decide, by decide⟩ rfl rfl (Nat.le_of_ble_eq_true rfl) (Nat.zero_le _) (Nat.zero_le _) (m_X7_within ⟨rfl, ?_⟩)
    refine k_ifeq 22 dX7_extreme_15 (by decide) (fun h15 => ?_) (fun h15 => ?_)
    · refine k_iconst (1) dX7_extreme_22 (by decide) ?_
      refine k_invV (As := [_]) dX7_extreme_23 mm_X7_refused wL_X7_34 ⟨by decide, by decide⟩ hM.1.1 hM.1.2 rfl rfl (Nat.le_of_ble_eq_true rfl) (Nat.zero_le _) (Nat.zero_le _) (m_X7_refused (r := 1) hM rfl ⟨rfl, ?_⟩)
      refine k_ifeq 31 dX7_extreme_26 (by decide) (fun h26 => ?_) (fun h26 => ?_)
      · exact absurd h26 (by decide)
      · refine k_iconst (0) dX7_extreme_29 (by decide) ?_
        refine k_iret dX7_extreme_30 rfl (rfl) ?_
        exact hN h15
    · obtain ⟨k, hk, ek⟩ := kf_within_nI (n := 3) rfl (by decide) h15
      refine k_iconst (0) dX7_extreme_18 (by decide) ?_
      refine k_goto 23 dX7_extreme_19 (by decide) ?_
      refine k_invV (As := [_]) dX7_extreme_23 mm_X7_refused wL_X7_34 ⟨by decide, by decide⟩ hM.1.1 hM.1.2 rfl rfl (Nat.le_of_ble_eq_true rfl) (Nat.zero_le _) (Nat.zero_le _) (m_X7_refused (r := 0) hM rfl ⟨rfl, ?_⟩)
      refine k_ifeq 31 dX7_extreme_26 (by decide) (fun h26 => ?_) (fun h26 => ?_)
      · refine k_aload_n 0 dX7_extreme_31 rfl rfl ?_
        refine k_getfield dX7_extreme_32 hc_X7 hM.1.1 hM.1.2 0 (by decide) wF_X7_7 rfl ?_
        refine k_bipush (49) dX7_extreme_35 (by decide) ?_
        refine k_iload_n 2 dX7_extreme_37 rfl rfl ?_
        refine k_ifeq 47 dX7_extreme_38 (by decide) (fun h38 => ?_) (fun h38 => ?_)
        · refine k_iload_n 1 dX7_extreme_47 rfl rfl ?_
          refine k_iadd dX7_extreme_48 ?_
          refine k_ialoadN (49 + k) dX7_extreme_49 hM.2.1.1 hM.2.1.2 (kg_add (a := 49) rfl ek) (⟨by omega, by decide⟩) ?_
          refine k_istore (lv' := [(4, _), (0, _), (1, _), (2, _), (3, _)]) dX7_extreme_50 (by decide) rfl ?_
          refine k_iconst (0) dX7_extreme_52 (by decide) ?_
          refine k_istore (lv' := [(5, _), (4, _), (0, _), (1, _), (2, _), (3, _)]) dX7_extreme_53 (by decide) rfl ?_
          exact lp55 24 0 k (by omega) ek hk
        · exact absurd hw h38
      · exact absurd rfl h26
  · exact absurd hw h4

set_option maxRecDepth 100000 in
set_option maxHeartbeats 4000000 in
theorem m_m_X7_extreme_r {X : kn_X} {σ : kn_S} {τ : kn_T} {z : kn_Z} {c n : Nat} {Q : kn_Q} {x w v : Int32} (hM : kn_isM z) (hw : ¬ w = 0) (hQ : ∀ k, x = nI k → k ≤ 5 → Q (.inl (some (.int (kg_exf (kn_up σ 128 4 0) (fun j => nI j / 4) x v (σ 129 (49 + 4 * k)) 24)))) (kn_up σ 128 4 0) τ z) (hN : (kf_within x 0 5) = 0 → Q (.inl (some (.int (0)))) (kn_up σ 128 4 1) τ z) : kn_Ev X MX7_extreme [.ref 128, .int x, .int w, .int v] σ τ z c n Q := by
  refine kn_entry (by decide +kernel) rfl (Nat.le_of_ble_eq_true rfl) ?_
  show kn_Go X MX7_extreme 0 [(0, .ref 128), (1, .int x), (2, .int w), (3, .int v)] [] _ _ _ _ _ _
  have lp55 : ∀ r9 : Nat, ∀ j k : Nat, j + r9 = 24 → x = nI k → k ≤ 5 → kn_Go X MX7_extreme 55 [(5, .int (nI j)), (4, .int (kg_exf (kn_up σ 128 4 0) (fun j => nI j / 4) x v (σ 129 (49 + 4 * k)) j)), (0, .ref 128), (1, .int x), (2, .int w), (3, .int v)] [] (kn_up σ 128 4 0) τ z c n Q := by
    intro r9
    induction r9 with
    | zero =>
      intro j k hj ek hk
      obtain rfl : j = 24 := by omega
      refine k_iload dX7_extreme_55 rfl ?_
      refine k_bipush (24) dX7_extreme_57 (by decide) ?_
      refine k_icmpge 129 dX7_extreme_59 (by decide) (fun h59 => ?_) (fun h59 => ?_)
      · refine k_iload dX7_extreme_129 rfl ?_
        refine k_iret dX7_extreme_131 rfl (rfl) ?_
        exact hQ k ek hk
      · exact absurd (nI_le (Nat.le_refl 24) (by decide)) h59
    | succ r9 ih =>
      intro j k hj ek hk
      refine k_iload dX7_extreme_55 rfl ?_
      refine k_bipush (24) dX7_extreme_57 (by decide) ?_
      refine k_icmpge 129 dX7_extreme_59 (by decide) (fun h59 => ?_) (fun h59 => ?_)
      · exact absurd h59 (nI_ge (b := 24) (by omega) (by decide))
      · refine k_aload_n 0 dX7_extreme_62 rfl rfl ?_
        refine k_getfield dX7_extreme_63 hc_X7 hM.1.1 hM.1.2 0 (by decide) wF_X7_7 rfl ?_
        refine k_bipush (49) dX7_extreme_66 (by decide) ?_
        refine k_iload dX7_extreme_68 rfl ?_
        refine k_iadd dX7_extreme_70 ?_
        refine k_ialoadN ((49 + j)) dX7_extreme_71 hM.2.1.1 hM.2.1.2 ((kg_add rfl rfl)) (⟨by omega, by decide⟩) ?_
        refine k_istore (lv' := [(6, _), (5, _), (4, _), (0, _), (1, _), (2, _), (3, _)]) dX7_extreme_72 (by decide) rfl ?_
        refine k_iload_n 2 dX7_extreme_74 rfl rfl ?_
        refine k_ifeq 85 dX7_extreme_75 (by decide) (fun h75 => ?_) (fun h75 => ?_)
        · exact absurd h75 hw
        · refine k_iload dX7_extreme_78 rfl ?_
          refine k_iconst (4) dX7_extreme_80 (by decide) ?_
          refine k_idiv dX7_extreme_81 (by decide) ?_
          refine k_goto 89 dX7_extreme_82 (by decide) ?_
          refine k_iload_n 1 dX7_extreme_89 rfl rfl ?_
          refine k_icmpne 123 dX7_extreme_90 (by decide) (fun h90 => ?_) (fun h90 => ?_)
          · refine k_iinc (nI (j + 1)) (lv' := [(5, _), (6, _), (4, _), (0, _), (1, _), (2, _), (3, _)]) dX7_extreme_123 rfl (kn_inc j) (by decide) rfl ?_
            refine k_goto 55 dX7_extreme_126 (by decide) ?_
            refine k_re [5, 4, 0, 1, 2, 3] (lv' := [(5, _), (4, _), (0, _), (1, _), (2, _), (3, _)]) rfl ?_
            have h9 := ih (j + 1) k (by omega) ek hk
            dsimp only [kg_exf] at h9
            rw [if_neg h90] at h9
            exact h9
          · refine k_iload_n 3 dX7_extreme_93 rfl rfl ?_
            refine k_ifeq 114 dX7_extreme_94 (by decide) (fun h94 => ?_) (fun h94 => ?_)
            · refine k_iload dX7_extreme_114 rfl ?_
              refine k_iload dX7_extreme_116 rfl ?_
              refine k_invS (As := [_, _]) dX7_extreme_118 mm_X7_lesser wL_X7_53 ⟨by decide, by decide⟩ rfl rfl (Nat.le_of_ble_eq_true rfl) (Nat.zero_le _) (Nat.zero_le _) (m_X7_lesser ⟨rfl, ?_⟩)
              refine k_istore (lv' := [(4, _), (6, _), (5, _), (0, _), (1, _), (2, _), (3, _)]) dX7_extreme_121 (by decide) rfl ?_
              refine k_iinc (nI (j + 1)) (lv' := [(5, _), (4, _), (6, _), (0, _), (1, _), (2, _), (3, _)]) dX7_extreme_123 rfl (kn_inc j) (by decide) rfl ?_
              refine k_goto 55 dX7_extreme_126 (by decide) ?_
              refine k_re [5, 4, 0, 1, 2, 3] (lv' := [(5, _), (4, _), (0, _), (1, _), (2, _), (3, _)]) rfl ?_
              have h9 := ih (j + 1) k (by omega) ek hk
              dsimp only [kg_exf] at h9
              rw [if_pos h90, if_pos h94] at h9
              exact h9
            · refine k_iload dX7_extreme_97 rfl ?_
              refine k_iload dX7_extreme_99 rfl ?_
              refine k_icmple 109 dX7_extreme_101 (by decide) (fun h101 => ?_) (fun h101 => ?_)
              · refine k_iload dX7_extreme_109 rfl ?_
                refine k_goto 121 dX7_extreme_111 (by decide) ?_
                refine k_istore (lv' := [(4, _), (6, _), (5, _), (0, _), (1, _), (2, _), (3, _)]) dX7_extreme_121 (by decide) rfl ?_
                refine k_iinc (nI (j + 1)) (lv' := [(5, _), (4, _), (6, _), (0, _), (1, _), (2, _), (3, _)]) dX7_extreme_123 rfl (kn_inc j) (by decide) rfl ?_
                refine k_goto 55 dX7_extreme_126 (by decide) ?_
                refine k_re [5, 4, 0, 1, 2, 3] (lv' := [(5, _), (4, _), (0, _), (1, _), (2, _), (3, _)]) rfl ?_
                have h9 := ih (j + 1) k (by omega) ek hk
                dsimp only [kg_exf] at h9
                rw [if_pos h90, if_neg h94, if_pos h101] at h9
                exact h9
              · refine k_iload dX7_extreme_104 rfl ?_
                refine k_goto 121 dX7_extreme_106 (by decide) ?_
                refine k_istore (lv' := [(4, _), (6, _), (5, _), (0, _), (1, _), (2, _), (3, _)]) dX7_extreme_121 (by decide) rfl ?_
                refine k_iinc (nI (j + 1)) (lv' := [(5, _), (4, _), (6, _), (0, _), (1, _), (2, _), (3, _)]) dX7_extreme_123 rfl (kn_inc j) (by decide) rfl ?_
                refine k_goto 55 dX7_extreme_126 (by decide) ?_
                refine k_re [5, 4, 0, 1, 2, 3] (lv' := [(5, _), (4, _), (0, _), (1, _), (2, _), (3, _)]) rfl ?_
                have h9 := ih (j + 1) k (by omega) ek hk
                dsimp only [kg_exf] at h9
                rw [if_pos h90, if_neg h94, if_neg h101] at h9
                exact h9
  refine k_aload_n 0 dX7_extreme_0 rfl rfl ?_
  refine k_iload_n 1 dX7_extreme_1 rfl rfl ?_
  refine k_iconst (0) dX7_extreme_2 (by decide) ?_
  refine k_iload_n 2 dX7_extreme_3 rfl rfl ?_
  refine k_ifeq 11 dX7_extreme_4 (by decide) (fun h4 => ?_) (fun h4 => ?_)
  · exact absurd h4 hw
  · refine k_iconst (5) dX7_extreme_7 (by decide) ?_
    refine k_goto 12 dX7_extreme_8 (by decide) ?_
    refine k_invS (As := [_, _, _]) dX7_extreme_12 mm_X7_within wL_X7_38 ⟨by decide, by decide⟩ rfl rfl (Nat.le_of_ble_eq_true rfl) (Nat.zero_le _) (Nat.zero_le _) (m_X7_within ⟨rfl, ?_⟩)
    refine k_ifeq 22 dX7_extreme_15 (by decide) (fun h15 => ?_) (fun h15 => ?_)
    · refine k_iconst (1) dX7_extreme_22 (by decide) ?_
      refine k_invV (As := [_]) dX7_extreme_23 mm_X7_refused wL_X7_34 ⟨by decide, by decide⟩ hM.1.1 hM.1.2 rfl rfl (Nat.le_of_ble_eq_true rfl) (Nat.zero_le _) (Nat.zero_le _) (m_X7_refused (r := 1) hM rfl ⟨rfl, ?_⟩)
      refine k_ifeq 31 dX7_extreme_26 (by decide) (fun h26 => ?_) (fun h26 => ?_)
      · exact absurd h26 (by decide)
      · refine k_iconst (0) dX7_extreme_29 (by decide) ?_
        refine k_iret dX7_extreme_30 rfl (rfl) ?_
        exact hN h15
    · obtain ⟨k, hk, ek⟩ := kf_within_nI (n := 5) rfl (by decide) h15
      refine k_iconst (0) dX7_extreme_18 (by decide) ?_
      refine k_goto 23 dX7_extreme_19 (by decide) ?_
      refine k_invV (As := [_]) dX7_extreme_23 mm_X7_refused wL_X7_34 ⟨by decide, by decide⟩ hM.1.1 hM.1.2 rfl rfl (Nat.le_of_ble_eq_true rfl) (Nat.zero_le _) (Nat.zero_le _) (m_X7_refused (r := 0) hM rfl ⟨rfl, ?_⟩)
      refine k_ifeq 31 dX7_extreme_26 (by decide) (fun h26 => ?_) (fun h26 => ?_)
      · refine k_aload_n 0 dX7_extreme_31 rfl rfl ?_
        refine k_getfield dX7_extreme_32 hc_X7 hM.1.1 hM.1.2 0 (by decide) wF_X7_7 rfl ?_
        refine k_bipush (49) dX7_extreme_35 (by decide) ?_
        refine k_iload_n 2 dX7_extreme_37 rfl rfl ?_
        refine k_ifeq 47 dX7_extreme_38 (by decide) (fun h38 => ?_) (fun h38 => ?_)
        · exact absurd h38 hw
        · refine k_iconst (4) dX7_extreme_41 (by decide) ?_
          refine k_iload_n 1 dX7_extreme_42 rfl rfl ?_
          refine k_imul dX7_extreme_43 ?_
          refine k_goto 48 dX7_extreme_44 (by decide) ?_
          refine k_iadd dX7_extreme_48 ?_
          refine k_ialoadN (49 + 4 * k) dX7_extreme_49 hM.2.1.1 hM.2.1.2 (kg_add (a := 49) rfl (kg_mul (a := 4) rfl ek)) (⟨by omega, by decide⟩) ?_
          refine k_istore (lv' := [(4, _), (0, _), (1, _), (2, _), (3, _)]) dX7_extreme_50 (by decide) rfl ?_
          refine k_iconst (0) dX7_extreme_52 (by decide) ?_
          refine k_istore (lv' := [(5, _), (4, _), (0, _), (1, _), (2, _), (3, _)]) dX7_extreme_53 (by decide) rfl ?_
          exact lp55 24 0 k (by omega) ek hk
      · exact absurd rfl h26

set_option maxRecDepth 100000 in
set_option maxHeartbeats 4000000 in
theorem m_X7_mix {X : kn_X} {σ : kn_S} {τ : kn_T} {z : kn_Z} {c n : Nat} {Q : kn_Q} {h : Int64} {v : Int32} (hM : kn_isM z) (hQ : Q (.inl none) σ (kn_upT τ 128 12 (31 * h + v.toInt64)) z) : kn_Ev X MX7_mix [.ref 128, .int v] σ (kn_upT τ 128 12 h) z c n Q := by
  refine kn_entry (by decide +kernel) rfl (Nat.le_of_ble_eq_true rfl) ?_
  show kn_Go X MX7_mix 0 [(0, .ref 128), (1, .int v)] [] _ _ _ _ _ _
  refine k_aload_n 0 dX7_mix_0 rfl rfl ?_
  refine k_ldc2 dX7_mix_1 wK_X7_170 ?_
  refine k_aload_n 0 dX7_mix_4 rfl rfl ?_
  refine k_getfield dX7_mix_5 hc_X7 hM.1.1 hM.1.2 12 (by decide) wF_X7_172 rfl ?_
  refine k_lmul dX7_mix_8 ?_
  refine k_iload_n 1 dX7_mix_9 rfl rfl ?_
  refine k_i2l dX7_mix_10 ?_
  refine k_ladd dX7_mix_11 ?_
  refine k_putfieldJ dX7_mix_12 hc_X7 hM.1.1 hM.1.2 12 (by decide) wF_X7_172 rfl rfl rfl ?_
  refine k_vret dX7_mix_15 rfl ?_
  rw [kn_upT_up]
  exact hQ

set_option maxRecDepth 100000 in
set_option maxHeartbeats 4000000 in
theorem m_X7_mixAll {X : kn_X} {σ : kn_S} {τ : kn_T} {z : kn_Z} {c n : Nat} {Q : kn_Q} {a k : Nat} {h : Int64} (hM : kn_isM z) (hb : a + k ≤ 254) (hQ : Q (.inl none) σ (kn_upT τ 128 12 (kg_hA (σ 129) a h k)) z) : kn_Ev X MX7_mixAll [.ref 128, .int (nI a), .int (nI k)] σ (kn_upT τ 128 12 h) z c n Q := by
  refine kn_entry (by decide +kernel) rfl (Nat.le_of_ble_eq_true rfl) ?_
  show kn_Go X MX7_mixAll 0 [(0, .ref 128), (1, .int (nI a)), (2, .int (nI k))] [] _ _ _ _ _ _
  have lp2 : ∀ r9 : Nat, ∀ j : Nat, j + r9 = k → kn_Go X MX7_mixAll 2 [(3, .int (nI (a + j))), (0, .ref 128), (1, .int (nI a)), (2, .int (nI k))] [] σ (kn_upT τ 128 12 (kg_hA (σ 129) a h j)) z c n Q := by
    intro r9
    induction r9 with
    | zero =>
      intro j hj
      obtain rfl : j = k := by omega
      refine k_iload_n 3 dX7_mixAll_2 rfl rfl ?_
      refine k_iload_n 1 dX7_mixAll_3 rfl rfl ?_
      refine k_iload_n 2 dX7_mixAll_4 rfl rfl ?_
      refine k_iadd dX7_mixAll_5 ?_
      rw [nI_add]
      refine k_icmpge 25 dX7_mixAll_6 (by decide) (fun h6 => ?_) (fun h6 => ?_)
      · refine k_vret dX7_mixAll_25 rfl ?_
        exact hQ
      · exact absurd (nI_le (Nat.le_refl _) (by omega)) h6
    | succ r9 ih =>
      intro j hj
      refine k_iload_n 3 dX7_mixAll_2 rfl rfl ?_
      refine k_iload_n 1 dX7_mixAll_3 rfl rfl ?_
      refine k_iload_n 2 dX7_mixAll_4 rfl rfl ?_
      refine k_iadd dX7_mixAll_5 ?_
      rw [nI_add]
      refine k_icmpge 25 dX7_mixAll_6 (by decide) (fun h6 => ?_) (fun h6 => ?_)
      · exact absurd h6 (nI_ge (by omega) (by omega))
      · refine k_aload_n 0 dX7_mixAll_9 rfl rfl ?_
        refine k_aload_n 0 dX7_mixAll_10 rfl rfl ?_
        refine k_getfield dX7_mixAll_11 hc_X7 hM.1.1 hM.1.2 0 (by decide) wF_X7_7 rfl ?_
        refine k_iload_n 3 dX7_mixAll_14 rfl rfl ?_
        refine k_ialoadN ((a + j)) dX7_mixAll_15 hM.2.1.1 hM.2.1.2 (rfl) (⟨by omega, by decide⟩) ?_
        refine k_invV (As := [_]) dX7_mixAll_16 mm_X7_mix wL_X7_176 ⟨by decide, by decide⟩ hM.1.1 hM.1.2 rfl rfl (Nat.le_of_ble_eq_true rfl) (Nat.zero_le _) (Nat.zero_le _) (m_X7_mix hM ⟨rfl, ?_⟩)
        refine k_iinc (nI (a + (j + 1))) (lv' := [(3, _), (0, _), (1, _), (2, _)]) dX7_mixAll_19 rfl (nI_1 (a + j)) (by decide) rfl ?_
        refine k_goto 2 dX7_mixAll_22 (by decide) ?_
        exact ih (j + 1) (by omega)
  refine k_iload_n 1 dX7_mixAll_0 rfl rfl ?_
  refine k_istore_n 3 (lv' := [(3, _), (0, _), (1, _), (2, _)]) dX7_mixAll_1 rfl (by decide) rfl ?_
  exact lp2 k 0 (by omega)
