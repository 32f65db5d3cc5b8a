-- the model: drive, asked of the numbers that it may drive alone
set_option maxRecDepth 100000 in
set_option maxHeartbeats 4000000 in
theorem m_X7_drive2 {X : kn_X} {σ : kn_S} {τ : kn_T} {z : kn_Z} {c n : Nat} {Q : kn_Q} {sv m cl : Nat} {x y w v : Int32} (hM : kn_isM z) (hsv : σ 128 3 = nI sv) (hsv4 : sv ≤ 4) (hce : ¬ kf_isOp x y = 0 → kf_cell x y = nI cl ∧ cl < 24) (hP : ∀ vv : Nat, v = nI vv → vv ≤ 1000 → ¬ (kf_isOp x y) = 0 → ¬ (kf_within w 80 110) = 0 → ∀ j, j < vv → kg_fp (kg_dr (kg_saves (kn_up σ 128 4 0) sv) m cl x y w j).2 m cl x y w) (hQ : ∀ vv : Nat, v = nI vv → vv ≤ 1000 → ¬ (kf_isOp x y) = 0 → ¬ (kf_within w 80 110) = 0 → Q (.inl (some (.int ((kg_dr (kg_saves (kn_up σ 128 4 0) sv) m cl x y w vv).1)))) (kg_dr (kg_saves (kn_up σ 128 4 0) sv) m cl x y w vv).2 τ z) (hN : ((kf_isOp x y) = 0 ∨ (kf_within w 80 110) = 0 ∨ (kf_within v 0 1000) = 0) → Q (.inl (some (.int (0)))) (kn_up σ 128 4 1) τ z) : kn_Ev X MX7_drive [.ref 128, .int x, .int y, .int w, .int v] σ τ z c n Q := by
  refine kn_entry (by decide +kernel) rfl (Nat.le_of_ble_eq_true rfl) ?_
  show kn_Go X MX7_drive 0 [(0, .ref 128), (1, .int x), (2, .int y), (3, .int w), (4, .int v)] [] _ _ _ _ _ _
  have lp51 : ∀ r9 : Nat, ∀ (j vv : Nat), j + r9 = vv → vv ≤ 1000 → (kf_cell x y = nI cl ∧ cl < 24) → (∀ j, j < vv → kg_fp (kg_dr (kg_saves (kn_up σ 128 4 0) sv) m cl x y w j).2 m cl x y w) → Q (.inl (some (.int ((kg_dr (kg_saves (kn_up σ 128 4 0) sv) m cl x y w vv).1)))) (kg_dr (kg_saves (kn_up σ 128 4 0) sv) m cl x y w vv).2 τ z → kn_Go X MX7_drive 51 [(6, .int (nI j)), (5, .int (kg_dr (kg_saves (kn_up σ 128 4 0) sv) m cl x y w j).1), (0, .ref 128), (1, .int x), (2, .int y), (3, .int w), (4, .int (nI vv))] [] (kg_dr (kg_saves (kn_up σ 128 4 0) sv) m cl x y w j).2 τ z c n Q := by
    intro r9
    induction r9 with
    | zero =>
      intro j vv hj hvv hc hF hQ
      obtain rfl : j = vv := by omega
      refine k_iload dX7_drive_51 rfl ?_
      refine k_iload dX7_drive_53 rfl ?_
      refine k_icmpge 85 dX7_drive_55 (by decide) (fun h55 => ?_) (fun h55 => ?_)
      · refine k_iload dX7_drive_85 rfl ?_
        refine k_iret dX7_drive_87 rfl (rfl) ?_
        exact hQ
      · exact absurd (nI_le (Nat.le_refl _) (by omega)) h55
    | succ r9 ih =>
      intro j vv hj hvv hc hF hQ
      refine k_iload dX7_drive_51 rfl ?_
      refine k_iload dX7_drive_53 rfl ?_
      refine k_icmpge 85 dX7_drive_55 (by decide) (fun h55 => ?_) (fun h55 => ?_)
      · exact absurd h55 (nI_ge (by omega) (by omega))
      · refine k_iload dX7_drive_58 rfl ?_
        refine k_aload_n 0 dX7_drive_60 rfl rfl ?_
        refine k_iload_n 1 dX7_drive_61 rfl rfl ?_
        refine k_iload_n 2 dX7_drive_62 rfl rfl ?_
        refine k_iload_n 3 dX7_drive_63 rfl rfl ?_
        refine k_invV (As := [_, _, _]) dX7_drive_64 mm_X7_fires wL_X7_117 ⟨by decide, by decide⟩ hM.1.1 hM.1.2 rfl rfl (Nat.le_of_ble_eq_true rfl) (Nat.zero_le _) (Nat.zero_le _) (m_X7_fires (m := m) (cl := cl) hM (hF j (by omega)) hc.1 hc.2 ⟨rfl, ?_⟩)
        refine k_iconst (1) dX7_drive_67 (by decide) ?_
        refine k_icmpne 75 dX7_drive_68 (by decide) (fun h68 => ?_) (fun h68 => ?_)
        · refine k_iconst (0) dX7_drive_75 (by decide) ?_
          refine k_iadd dX7_drive_76 ?_
          refine k_istore (lv' := [(5, _), (6, _), (0, _), (1, _), (2, _), (3, _), (4, _)]) dX7_drive_77 (by decide) rfl ?_
          refine k_iinc (nI (j + 1)) (lv' := [(6, _), (5, _), (0, _), (1, _), (2, _), (3, _), (4, _)]) dX7_drive_79 rfl (kn_inc j) (by decide) rfl ?_
          refine k_goto 51 dX7_drive_82 (by decide) ?_
          have e9 : kg_dr (kg_saves (kn_up σ 128 4 0) sv) m cl x y w (j + 1) = ((kg_dr (kg_saves (kn_up σ 128 4 0) sv) m cl x y w j).1 + (if kg_fa (kg_dr (kg_saves (kn_up σ 128 4 0) sv) m cl x y w j).2 m cl x y w = 1 then 1 else 0), kg_fs (kg_dr (kg_saves (kn_up σ 128 4 0) sv) m cl x y w j).2 m cl x y w) := rfl
          rw [if_neg h68] at e9
          have h9 := ih (j + 1) vv (by omega) hvv hc hF hQ
          rw [e9] at h9
          exact h9
        · refine k_iconst (1) dX7_drive_71 (by decide) ?_
          refine k_goto 76 dX7_drive_72 (by decide) ?_
          refine k_iadd dX7_drive_76 ?_
          refine k_istore (lv' := [(5, _), (6, _), (0, _), (1, _), (2, _), (3, _), (4, _)]) dX7_drive_77 (by decide) rfl ?_
          refine k_iinc (nI (j + 1)) (lv' := [(6, _), (5, _), (0, _), (1, _), (2, _), (3, _), (4, _)]) dX7_drive_79 rfl (kn_inc j) (by decide) rfl ?_
          refine k_goto 51 dX7_drive_82 (by decide) ?_
          have e9 : kg_dr (kg_saves (kn_up σ 128 4 0) sv) m cl x y w (j + 1) = ((kg_dr (kg_saves (kn_up σ 128 4 0) sv) m cl x y w j).1 + (if kg_fa (kg_dr (kg_saves (kn_up σ 128 4 0) sv) m cl x y w j).2 m cl x y w = 1 then 1 else 0), kg_fs (kg_dr (kg_saves (kn_up σ 128 4 0) sv) m cl x y w j).2 m cl x y w) := rfl
          rw [if_pos h68] at e9
          have h9 := ih (j + 1) vv (by omega) hvv hc hF hQ
          rw [e9] at h9
          exact h9
  refine k_aload_n 0 dX7_drive_0 rfl rfl ?_
  refine k_iload_n 1 dX7_drive_1 rfl rfl ?_
  refine k_iload_n 2 dX7_drive_2 rfl rfl ?_
  refine k_invS (As := [_, _]) dX7_drive_3 mm_X7_isPoint wL_X7_111 ⟨by decide, by decide⟩ rfl rfl (Nat.le_of_ble_eq_true rfl) (Nat.zero_le _) (Nat.zero_le _) (m_X7_isPoint ⟨rfl, ?_⟩)
  refine k_ifeq 32 dX7_drive_6 (by decide) (fun h6 => ?_) (fun h6 => ?_)
  · refine k_iconst (1) dX7_drive_32 (by decide) ?_
    refine k_invV (As := [_]) dX7_drive_33 mm_X7_refused wL_X7_34 ⟨by decide, by decide⟩ hM.1.1 hM.1.2 rfl rfl (Nat.le_of_ble_eq_true rfl) (Nat.zero_le _) (Nat.zero_le _) (m_X7_refused (r := 1) hM rfl ⟨rfl, ?_⟩)
    refine k_ifeq 41 dX7_drive_36 (by decide) (fun h36 => ?_) (fun h36 => ?_)
    · exact absurd h36 (by decide)
    · refine k_iconst (0) dX7_drive_39 (by decide) ?_
      refine k_iret dX7_drive_40 rfl (rfl) ?_
      first
        | exact hN (Or.inl (by assumption))
        | exact hN (Or.inr (Or.inl (by assumption)))
        | exact hN (Or.inr (Or.inr (by assumption)))
  · refine k_iload_n 3 dX7_drive_9 rfl rfl ?_
    refine k_invS (As := [_]) dX7_drive_10 mm_X7_isOctane wL_X7_114 ⟨by decide, by decide⟩ rfl rfl (Nat.le_of_ble_eq_true rfl) (Nat.zero_le _) (Nat.zero_le _) (m_X7_isOctane ⟨rfl, ?_⟩)
    refine k_ifeq 32 dX7_drive_13 (by decide) (fun h13 => ?_) (fun h13 => ?_)
    · refine k_iconst (1) dX7_drive_32 (by decide) ?_
      refine k_invV (As := [_]) dX7_drive_33 mm_X7_refused wL_X7_34 ⟨by decide, by decide⟩ hM.1.1 hM.1.2 rfl rfl (Nat.le_of_ble_eq_true rfl) (Nat.zero_le _) (Nat.zero_le _) (m_X7_refused (r := 1) hM rfl ⟨rfl, ?_⟩)
      refine k_ifeq 41 dX7_drive_36 (by decide) (fun h36 => ?_) (fun h36 => ?_)
      · exact absurd h36 (by decide)
      · refine k_iconst (0) dX7_drive_39 (by decide) ?_
        refine k_iret dX7_drive_40 rfl (rfl) ?_
        first
          | exact hN (Or.inl (by assumption))
          | exact hN (Or.inr (Or.inl (by assumption)))
          | exact hN (Or.inr (Or.inr (by assumption)))
    · refine k_iload dX7_drive_16 rfl ?_
      refine k_iconst (0) dX7_drive_18 (by decide) ?_
      refine k_sipush (1000) dX7_drive_19 (by decide) ?_
      refine k_invS (As := [_, _, _]) dX7_drive_22 mm_X7_within wL_X7_38 ⟨by decide, by decide⟩ rfl rfl (Nat.le_of_ble_eq_true rfl) (Nat.zero_le _) (Nat.zero_le _) (m_X7_within ⟨rfl, ?_⟩)
      refine k_ifeq 32 dX7_drive_25 (by decide) (fun h25 => ?_) (fun h25 => ?_)
      · refine k_iconst (1) dX7_drive_32 (by decide) ?_
        refine k_invV (As := [_]) dX7_drive_33 mm_X7_refused wL_X7_34 ⟨by decide, by decide⟩ hM.1.1 hM.1.2 rfl rfl (Nat.le_of_ble_eq_true rfl) (Nat.zero_le _) (Nat.zero_le _) (m_X7_refused (r := 1) hM rfl ⟨rfl, ?_⟩)
        refine k_ifeq 41 dX7_drive_36 (by decide) (fun h36 => ?_) (fun h36 => ?_)
        · exact absurd h36 (by decide)
        · refine k_iconst (0) dX7_drive_39 (by decide) ?_
          refine k_iret dX7_drive_40 rfl (rfl) ?_
          first
            | exact hN (Or.inl (by assumption))
            | exact hN (Or.inr (Or.inl (by assumption)))
            | exact hN (Or.inr (Or.inr (by assumption)))
      · refine k_iconst (0) dX7_drive_28 (by decide) ?_
        refine k_goto 33 dX7_drive_29 (by decide) ?_
        refine k_invV (As := [_]) dX7_drive_33 mm_X7_refused wL_X7_34 ⟨by decide, by decide⟩ hM.1.1 hM.1.2 rfl rfl (Nat.le_of_ble_eq_true rfl) (Nat.zero_le _) (Nat.zero_le _) (m_X7_refused (r := 0) hM rfl ⟨rfl, ?_⟩)
        refine k_ifeq 41 dX7_drive_36 (by decide) (fun h36 => ?_) (fun h36 => ?_)
        · refine k_aload_n 0 dX7_drive_41 rfl rfl ?_
          refine k_invV (As := []) dX7_drive_42 mm_X7_saves wL_X7_42 ⟨by decide, by decide⟩ hM.1.1 hM.1.2 rfl rfl (Nat.le_of_ble_eq_true rfl) (Nat.zero_le _) (Nat.zero_le _) (m_X7_saves (sv := sv) hM hsv hsv4 ⟨rfl, ?_⟩)
          refine k_iconst (0) dX7_drive_45 (by decide) ?_
          refine k_istore (lv' := [(5, _), (0, _), (1, _), (2, _), (3, _), (4, _)]) dX7_drive_46 (by decide) rfl ?_
          refine k_iconst (0) dX7_drive_48 (by decide) ?_
          refine k_istore (lv' := [(6, _), (5, _), (0, _), (1, _), (2, _), (3, _), (4, _)]) dX7_drive_49 (by decide) rfl ?_
          obtain ⟨vv, hvv, rfl⟩ := kf_within_nI (n := 1000) rfl (by decide) h25
          exact lp51 vv 0 vv (Nat.zero_add _) hvv (hce h6) (hP vv rfl hvv h6 h13) (hQ vv rfl hvv h6 h13)
        · exact absurd rfl h36
