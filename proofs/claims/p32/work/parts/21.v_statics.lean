-- the face's own statics
def kf_isSetting (w v : Int32) : Int32 := if w < 0 then 0 else if 8 ≤ w then 0 else kf_within v (kn_least w.toNatClampNeg) (kn_most w.toNatClampNeg)
def kf_and (a b : Int32) : Int32 := if a = 0 then 0 else if b = 0 then 0 else 1
def kf_isCell (r c : Int32) : Int32 := kf_and (kf_within r 0 5) (kf_within c 0 3)
def kf_isOp (s l : Int32) : Int32 := kf_and (kf_within s 500 7000) (kf_within l 0 100)
def kf_isFir (s l e : Int32) : Int32 := kf_and (kf_isOp s l) (kf_within e 0 20000)
def kf_isDrv (s l o : Int32) : Int32 := kf_and (kf_isOp s l) (kf_within o 80 110)
theorem kf_within_01 (v a b : Int32) : kf_within v a b = 0 ∨ kf_within v a b = 1 := by
  unfold kf_within
  split
  · exact Or.inl rfl
  split
  · exact Or.inl rfl
  · exact Or.inr rfl
theorem kf_within_n0 {v a b : Int32} (h : ¬ kf_within v a b = 0) : kf_within v a b = 1 := (kf_within_01 v a b).resolve_left h

set_option maxRecDepth 100000 in
set_option maxHeartbeats 4000000 in
theorem m_X6_isCell {X : kn_X} {σ : kn_S} {τ : kn_T} {z : kn_Z} {c n : Nat} {Q : kn_Q} {x y : Int32}  (hQ : Q (.inl (some (.int (kf_isCell x y)))) σ τ z) : kn_Ev X MX6_isCell [.int x, .int y] σ τ z c n Q := by
  refine kn_entry (by decide +kernel) rfl (Nat.le_of_ble_eq_true rfl) ?_
  show kn_Go X MX6_isCell 0 [(0, .int x), (1, .int y)] [] _ _ _ _ _ _
  refine k_iload_n 0 dX6_isCell_0 rfl rfl ?_
  refine k_iconst (0) dX6_isCell_1 (by decide) ?_
  refine k_iconst (5) dX6_isCell_2 (by decide) ?_
  refine k_invS (As := [_, _, _]) dX6_isCell_3 mm_X6_within wL_X6_33 ⟨by decide, by decide⟩ rfl rfl (Nat.le_of_ble_eq_true rfl) (Nat.zero_le _) (Nat.zero_le _) (m_X6_within ⟨rfl, ?_⟩)
  refine k_ifeq 22 dX6_isCell_6 (by decide) (fun h6 => ?_) (fun h6 => ?_)
  · refine k_iconst (0) dX6_isCell_22 (by decide) ?_
    refine k_iret dX6_isCell_23 rfl (rfl) ?_
    dsimp only [kf_isCell, kf_and] at hQ
    rw [if_pos h6] at hQ
    exact hQ
  · refine k_iload_n 1 dX6_isCell_9 rfl rfl ?_
    refine k_iconst (0) dX6_isCell_10 (by decide) ?_
    refine k_iconst (3) dX6_isCell_11 (by decide) ?_
    refine k_invS (As := [_, _, _]) dX6_isCell_12 mm_X6_within wL_X6_33 ⟨by decide, by decide⟩ rfl rfl (Nat.le_of_ble_eq_true rfl) (Nat.zero_le _) (Nat.zero_le _) (m_X6_within ⟨rfl, ?_⟩)
    refine k_ifeq 22 dX6_isCell_15 (by decide) (fun h15 => ?_) (fun h15 => ?_)
    · refine k_iconst (0) dX6_isCell_22 (by decide) ?_
      refine k_iret dX6_isCell_23 rfl (rfl) ?_
      dsimp only [kf_isCell, kf_and] at hQ
      rw [if_neg h6, if_pos h15] at hQ
      exact hQ
    · refine k_iconst (1) dX6_isCell_18 (by decide) ?_
      refine k_goto 23 dX6_isCell_19 (by decide) ?_
      refine k_iret dX6_isCell_23 rfl (rfl) ?_
      dsimp only [kf_isCell, kf_and] at hQ
      rw [if_neg h6, if_neg h15] at hQ
      exact hQ

set_option maxRecDepth 100000 in
set_option maxHeartbeats 4000000 in
theorem m_X6_isOperation {X : kn_X} {σ : kn_S} {τ : kn_T} {z : kn_Z} {c n : Nat} {Q : kn_Q} {x y : Int32}  (hQ : Q (.inl (some (.int (kf_isOp x y)))) σ τ z) : kn_Ev X MX6_isOperation [.int x, .int y] σ τ z c n Q := by
  refine kn_entry (by decide +kernel) rfl (Nat.le_of_ble_eq_true rfl) ?_
  show kn_Go X MX6_isOperation 0 [(0, .int x), (1, .int y)] [] _ _ _ _ _ _
  refine k_iload_n 0 dX6_isOperation_0 rfl rfl ?_
  refine k_sipush (500) dX6_isOperation_1 (by decide) ?_
  refine k_sipush (7000) dX6_isOperation_4 (by decide) ?_
  refine k_invS (As := [_, _, _]) dX6_isOperation_7 mm_X6_within wL_X6_33 ⟨by decide, by decide⟩ rfl rfl (Nat.le_of_ble_eq_true rfl) (Nat.zero_le _) (Nat.zero_le _) (m_X6_within ⟨rfl, ?_⟩)
  refine k_ifeq 27 dX6_isOperation_10 (by decide) (fun h10 => ?_) (fun h10 => ?_)
  · refine k_iconst (0) dX6_isOperation_27 (by decide) ?_
    refine k_iret dX6_isOperation_28 rfl (rfl) ?_
    dsimp only [kf_isOp, kf_and] at hQ
    rw [if_pos h10] at hQ
    exact hQ
  · refine k_iload_n 1 dX6_isOperation_13 rfl rfl ?_
    refine k_iconst (0) dX6_isOperation_14 (by decide) ?_
    refine k_bipush (100) dX6_isOperation_15 (by decide) ?_
    refine k_invS (As := [_, _, _]) dX6_isOperation_17 mm_X6_within wL_X6_33 ⟨by decide, by decide⟩ rfl rfl (Nat.le_of_ble_eq_true rfl) (Nat.zero_le _) (Nat.zero_le _) (m_X6_within ⟨rfl, ?_⟩)
    refine k_ifeq 27 dX6_isOperation_20 (by decide) (fun h20 => ?_) (fun h20 => ?_)
    · refine k_iconst (0) dX6_isOperation_27 (by decide) ?_
      refine k_iret dX6_isOperation_28 rfl (rfl) ?_
      dsimp only [kf_isOp, kf_and] at hQ
      rw [if_neg h10, if_pos h20] at hQ
      exact hQ
    · refine k_iconst (1) dX6_isOperation_23 (by decide) ?_
      refine k_goto 28 dX6_isOperation_24 (by decide) ?_
      refine k_iret dX6_isOperation_28 rfl (rfl) ?_
      dsimp only [kf_isOp, kf_and] at hQ
      rw [if_neg h10, if_neg h20] at hQ
      exact hQ

set_option maxRecDepth 100000 in
set_option maxHeartbeats 4000000 in
theorem m_X6_isFiring {X : kn_X} {σ : kn_S} {τ : kn_T} {z : kn_Z} {c n : Nat} {Q : kn_Q} {x y w : Int32}  (hQ : Q (.inl (some (.int (kf_isFir x y w)))) σ τ z) : kn_Ev X MX6_isFiring [.int x, .int y, .int w] σ τ z c n Q := by
  refine kn_entry (by decide +kernel) rfl (Nat.le_of_ble_eq_true rfl) ?_
  show kn_Go X MX6_isFiring 0 [(0, .int x), (1, .int y), (2, .int w)] [] _ _ _ _ _ _
  refine k_iload_n 0 dX6_isFiring_0 rfl rfl ?_
  refine k_iload_n 1 dX6_isFiring_1 rfl rfl ?_
  refine k_invS (As := [_, _]) dX6_isFiring_2 mm_X6_isOperation wL_X6_115 ⟨by decide, by decide⟩ rfl rfl (Nat.le_of_ble_eq_true rfl) (Nat.zero_le _) (Nat.zero_le _) (m_X6_isOperation ⟨rfl, ?_⟩)
  refine k_ifeq 23 dX6_isFiring_5 (by decide) (fun h5 => ?_) (fun h5 => ?_)
  · refine k_iconst (0) dX6_isFiring_23 (by decide) ?_
    refine k_iret dX6_isFiring_24 rfl (rfl) ?_
    dsimp only [kf_isFir, kf_and] at hQ
    rw [if_pos h5] at hQ
    exact hQ
  · refine k_iload_n 2 dX6_isFiring_8 rfl rfl ?_
    refine k_iconst (0) dX6_isFiring_9 (by decide) ?_
    refine k_sipush (20000) dX6_isFiring_10 (by decide) ?_
    refine k_invS (As := [_, _, _]) dX6_isFiring_13 mm_X6_within wL_X6_33 ⟨by decide, by decide⟩ rfl rfl (Nat.le_of_ble_eq_true rfl) (Nat.zero_le _) (Nat.zero_le _) (m_X6_within ⟨rfl, ?_⟩)
    refine k_ifeq 23 dX6_isFiring_16 (by decide) (fun h16 => ?_) (fun h16 => ?_)
    · refine k_iconst (0) dX6_isFiring_23 (by decide) ?_
      refine k_iret dX6_isFiring_24 rfl (rfl) ?_
      dsimp only [kf_isFir, kf_and] at hQ
      rw [if_neg h5, if_pos h16] at hQ
      exact hQ
    · refine k_iconst (1) dX6_isFiring_19 (by decide) ?_
      refine k_goto 24 dX6_isFiring_20 (by decide) ?_
      refine k_iret dX6_isFiring_24 rfl (rfl) ?_
      dsimp only [kf_isFir, kf_and] at hQ
      rw [if_neg h5, if_neg h16] at hQ
      exact hQ

set_option maxRecDepth 100000 in
set_option maxHeartbeats 4000000 in
theorem m_X6_isDriving {X : kn_X} {σ : kn_S} {τ : kn_T} {z : kn_Z} {c n : Nat} {Q : kn_Q} {x y w : Int32}  (hQ : Q (.inl (some (.int (kf_isDrv x y w)))) σ τ z) : kn_Ev X MX6_isDriving [.int x, .int y, .int w] σ τ z c n Q := by
  refine kn_entry (by decide +kernel) rfl (Nat.le_of_ble_eq_true rfl) ?_
  show kn_Go X MX6_isDriving 0 [(0, .int x), (1, .int y), (2, .int w)] [] _ _ _ _ _ _
  refine k_iload_n 0 dX6_isDriving_0 rfl rfl ?_
  refine k_iload_n 1 dX6_isDriving_1 rfl rfl ?_
  refine k_invS (As := [_, _]) dX6_isDriving_2 mm_X6_isOperation wL_X6_115 ⟨by decide, by decide⟩ rfl rfl (Nat.le_of_ble_eq_true rfl) (Nat.zero_le _) (Nat.zero_le _) (m_X6_isOperation ⟨rfl, ?_⟩)
  refine k_ifeq 23 dX6_isDriving_5 (by decide) (fun h5 => ?_) (fun h5 => ?_)
  · refine k_iconst (0) dX6_isDriving_23 (by decide) ?_
    refine k_iret dX6_isDriving_24 rfl (rfl) ?_
    dsimp only [kf_isDrv, kf_and] at hQ
    rw [if_pos h5] at hQ
    exact hQ
  · refine k_iload_n 2 dX6_isDriving_8 rfl rfl ?_
    refine k_bipush (80) dX6_isDriving_9 (by decide) ?_
    refine k_bipush (110) dX6_isDriving_11 (by decide) ?_
    refine k_invS (As := [_, _, _]) dX6_isDriving_13 mm_X6_within wL_X6_33 ⟨by decide, by decide⟩ rfl rfl (Nat.le_of_ble_eq_true rfl) (Nat.zero_le _) (Nat.zero_le _) (m_X6_within ⟨rfl, ?_⟩)
    refine k_ifeq 23 dX6_isDriving_16 (by decide) (fun h16 => ?_) (fun h16 => ?_)
    · refine k_iconst (0) dX6_isDriving_23 (by decide) ?_
      refine k_iret dX6_isDriving_24 rfl (rfl) ?_
      dsimp only [kf_isDrv, kf_and] at hQ
      rw [if_neg h5, if_pos h16] at hQ
      exact hQ
    · refine k_iconst (1) dX6_isDriving_19 (by decide) ?_
      refine k_goto 24 dX6_isDriving_20 (by decide) ?_
      refine k_iret dX6_isDriving_24 rfl (rfl) ?_
      dsimp only [kf_isDrv, kf_and] at hQ
      rw [if_neg h5, if_neg h16] at hQ
      exact hQ

set_option maxRecDepth 100000 in
set_option maxHeartbeats 4000000 in
theorem m_X6_isSetting {X : kn_X} {σ : kn_S} {τ : kn_T} {z : kn_Z} {c n : Nat} {Q : kn_Q} {w v : Int32}  (hQ : Q (.inl (some (.int (kf_isSetting w v)))) σ τ z) : kn_Ev X MX6_isSetting [.int w, .int v] σ τ z c n Q := by
  have vin8 : ∀ r, ¬ w < 0 → ¬ nI (kn_rl X (r + 1)) ≤ w → vp_in w (kn_rl X (r + 1)) := fun r a b => kn_vin (by show 8 < 2 ^ 31; decide) a b
  refine kn_entry (by decide +kernel) rfl (Nat.le_of_ble_eq_true rfl) ?_
  show kn_Go X MX6_isSetting 0 [(0, .int w), (1, .int v)] [] _ _ _ _ _ _
  refine k_iload_n 0 dX6_isSetting_0 rfl rfl ?_
  refine k_iflt 41 dX6_isSetting_1 (by decide) (fun h1 => ?_) (fun h1 => ?_)
  · refine k_iconst (0) dX6_isSetting_41 (by decide) ?_
    refine k_iret dX6_isSetting_42 rfl (rfl) ?_
    rw [kf_isSetting, if_pos h1] at hQ
    exact hQ
  · refine k_iload_n 0 dX6_isSetting_4 rfl rfl ?_
    refine k_getstatic (r := 1) dX6_isSetting_5 (Or.inl ⟨rfl, wF_X6_219⟩) ?_
    refine k_rolen dX6_isSetting_8 (by decide) ?_
    refine k_icmpge 41 dX6_isSetting_9 (by decide) (fun h9 => ?_) (fun h9 => ?_)
    · refine k_iconst (0) dX6_isSetting_41 (by decide) ?_
      refine k_iret dX6_isSetting_42 rfl (rfl) ?_
      rw [kf_isSetting, if_neg h1, if_pos (show (8 : Int32) ≤ w from h9)] at hQ
      exact hQ
    · refine k_iload_n 0 dX6_isSetting_12 rfl rfl ?_
      refine k_getstatic (r := 3) dX6_isSetting_13 (Or.inr (Or.inr ⟨rfl, wF_X6_223⟩)) ?_
      refine k_rolen dX6_isSetting_16 (by decide) ?_
      refine k_icmpge 41 dX6_isSetting_17 (by decide) (fun h17 => ?_) (fun h17 => ?_)
      · refine k_iconst (0) dX6_isSetting_41 (by decide) ?_
        refine k_iret dX6_isSetting_42 rfl (rfl) ?_
        exact absurd h17 h9
      · refine k_iload_n 1 dX6_isSetting_20 rfl rfl ?_
        refine k_getstatic (r := 1) dX6_isSetting_21 (Or.inl ⟨rfl, wF_X6_219⟩) ?_
        refine k_iload_n 0 dX6_isSetting_24 rfl rfl ?_
        refine k_roload dX6_isSetting_25 (by decide) (vin8 0 h1 h9) ?_
        refine k_getstatic (r := 3) dX6_isSetting_26 (Or.inr (Or.inr ⟨rfl, wF_X6_223⟩)) ?_
        refine k_iload_n 0 dX6_isSetting_29 rfl rfl ?_
        refine k_roload dX6_isSetting_30 (by decide) (vin8 2 h1 h17) ?_
        refine k_invS (As := [_, _, _]) dX6_isSetting_31 mm_X6_within wL_X6_33 ⟨by decide, by decide⟩ rfl rfl (Nat.le_of_ble_eq_true rfl) (Nat.zero_le _) (Nat.zero_le _) (m_X6_within ⟨rfl, ?_⟩)
        refine k_ifeq 41 dX6_isSetting_34 (by decide) (fun h34 => ?_) (fun h34 => ?_)
        · refine k_iconst (0) dX6_isSetting_41 (by decide) ?_
          refine k_iret dX6_isSetting_42 rfl (rfl) ?_
          rw [kf_isSetting, if_neg h1, if_neg (show ¬ (8 : Int32) ≤ w from h9), show kf_within v (kn_least w.toNatClampNeg) (kn_most w.toNatClampNeg) = 0 from h34] at hQ
          exact hQ
        · refine k_iconst (1) dX6_isSetting_37 (by decide) ?_
          refine k_goto 42 dX6_isSetting_38 (by decide) ?_
          refine k_iret dX6_isSetting_42 rfl (rfl) ?_
          rw [kf_isSetting, if_neg h1, if_neg (show ¬ (8 : Int32) ≤ w from h9), show kf_within v (kn_least w.toNatClampNeg) (kn_most w.toNatClampNeg) = 1 from kf_within_n0 h34] at hQ
          exact hQ

