-- the law's loop
set_option maxRecDepth 100000 in
set_option maxHeartbeats 4000000 in
theorem m_law_switch {X : kn_X} {σ : kn_S} {τ : kn_T} {z : kn_Z} {B c n i : Nat} {Q : kn_Q} {x : Int32} (hV : kr_V z) (W : kr_Ws σ B) (hB : B + 2000 < 16777216) (hi : i + 5 ≤ X.1) (hX : X.1 < 2 ^ 31) (k : ∀ (σ9 : kn_S) (τ9 : kn_T), kr_Ws σ9 (B + 1000) → kn_Go X ML_law 1775 [(5, .int (nI i)), (4, .ref 134), (3, .ref 133), (2, .ref 128), (1, .ref 0), (0, .retAddr 0)] [] σ9 τ9 z c n Q) : kn_Go X ML_law 44 [(5, .int (nI i)), (4, .ref 134), (3, .ref 133), (2, .ref 128), (1, .ref 0), (0, .retAddr 0)] [.int (x &&& 31)] σ τ z (c + 2) (n + 12) Q := by
  obtain ⟨j, hj, e⟩ := pk_andE x (m := 31) 5 (by decide)
  rw [e]
  by_cases h29 : j < 29
  · have hs : j = 0 ∨ j = 1 ∨ j = 2 ∨ j = 3 ∨ j = 4 ∨ j = 5 ∨ j = 6 ∨ j = 7 ∨ j = 8 ∨ j = 9 ∨ j = 10 ∨ j = 11 ∨ j = 12 ∨ j = 13 ∨ j = 14 ∨ j = 15 ∨ j = 16 ∨ j = 17 ∨ j = 18 ∨ j = 19 ∨ j = 20 ∨ j = 21 ∨ j = 22 ∨ j = 23 ∨ j = 24 ∨ j = 25 ∨ j = 26 ∨ j = 27 ∨ j = 28 := by omega
    rcases hs with rfl | rfl | rfl | rfl | rfl | rfl | rfl | rfl | rfl | rfl | rfl | rfl | rfl | rfl | rfl | rfl | rfl | rfl | rfl | rfl | rfl | rfl | rfl | rfl | rfl | rfl | rfl | rfl | rfl
    · exact k_tsIn 176 dL_law_44 (by decide) (by decide) rfl (by decide) (c_begin hV W hB hi hX k)
    · exact k_tsIn 232 dL_law_44 (by decide) (by decide) rfl (by decide) (c_set hV W hB hi hX k)
    · exact k_tsIn 300 dL_law_44 (by decide) (by decide) rfl (by decide) (c_value hV W hB hi hX k)
    · exact k_tsIn 356 dL_law_44 (by decide) (by decide) rfl (by decide) (c_teach hV W hB hi hX k)
    · exact k_tsIn 436 dL_law_44 (by decide) (by decide) rfl (by decide) (c_breakSensor hV W hB hi hX k)
    · exact k_tsIn 477 dL_law_44 (by decide) (by decide) rfl (by decide) (c_seed hV W hB hi hX k)
    · exact k_tsIn 533 dL_law_44 (by decide) (by decide) rfl (by decide) (c_fire hV W hB hi hX k)
    · exact k_tsIn 613 dL_law_44 (by decide) (by decide) rfl (by decide) (c_drive hV W hB hi hX k)
    · exact k_tsIn 705 dL_law_44 (by decide) (by decide) rfl (by decide) (c_firings hV W hB hi hX k)
    · exact k_tsIn 718 dL_law_44 (by decide) (by decide) rfl (by decide) (c_next hV W hB hi hX k)
    · exact k_tsIn 731 dL_law_44 (by decide) (by decide) rfl (by decide) (c_cylinder hV W hB hi hX k)
    · exact k_tsIn 799 dL_law_44 (by decide) (by decide) rfl (by decide) (c_learned hV W hB hi hX k)
    · exact k_tsIn 867 dL_law_44 (by decide) (by decide) rfl (by decide) (c_angle hV W hB hi hX k)
    · exact k_tsIn 975 dL_law_44 (by decide) (by decide) rfl (by decide) (c_status hV W hB hi hX k)
    · exact k_tsIn 1031 dL_law_44 (by decide) (by decide) rfl (by decide) (c_unfairness hV W hB hi hX k)
    · exact k_tsIn 1044 dL_law_44 (by decide) (by decide) rfl (by decide) (c_rateBits hV W hB hi hX k)
    · exact k_tsIn 1057 dL_law_44 (by decide) (by decide) rfl (by decide) (c_octane hV W hB hi hX k)
    · exact k_tsIn 1134 dL_law_44 (by decide) (by decide) rfl (by decide) (c_extreme hV W hB hi hX k)
    · exact k_tsIn 1246 dL_law_44 (by decide) (by decide) rfl (by decide) (c_events hV W hB hi hX k)
    · exact k_tsIn 1259 dL_law_44 (by decide) (by decide) rfl (by decide) (c_event hV W hB hi hX k)
    · exact k_tsIn 1327 dL_law_44 (by decide) (by decide) rfl (by decide) (c_eventsOf hV W hB hi hX k)
    · exact k_tsIn 1383 dL_law_44 (by decide) (by decide) rfl (by decide) (c_limit hV W hB hi hX k)
    · exact k_tsIn 1475 dL_law_44 (by decide) (by decide) rfl (by decide) (c_quietAfter hV W hB hi hX k)
    · exact k_tsIn 1555 dL_law_44 (by decide) (by decide) rfl (by decide) (c_lowestOctane hV W hB hi hX k)
    · exact k_tsIn 1635 dL_law_44 (by decide) (by decide) rfl (by decide) (c_append hV W hB hi hX k)
    · exact k_tsIn 1691 dL_law_44 (by decide) (by decide) rfl (by decide) (c_clearText hV W hB hi hX k)
    · exact k_tsIn 1704 dL_law_44 (by decide) (by decide) rfl (by decide) (c_replay hV W hB hi hX k)
    · exact k_tsIn 1717 dL_law_44 (by decide) (by decide) rfl (by decide) (c_undo hV W hB hi hX k)
    · exact k_tsIn 1761 dL_law_44 (by decide) (by decide) rfl (by decide) (c_digest hV W hB hi hX k)
  · refine k_tsOut 1775 dL_law_44 (Or.inr ?_) (by decide) (k_room (Nat.le_add_right _ _) (Nat.le_add_right _ _) (k _ _ ?_))
    · rw [nI_toInt (by omega)]; omega
    · obtain ⟨m, fi, o, k9, len, hW⟩ := W
      exact ⟨m, fi, o, k9, len, hW.to (by omega) (fun _ _ _ _ => rfl) rfl rfl rfl rfl rfl⟩
set_option maxRecDepth 100000 in
set_option maxHeartbeats 4000000 in
theorem m_law_loop {X : kn_X} {z : kn_Z} {c n : Nat} {Q : kn_Q} (hV : kr_V z) (hX : X.1 < 2 ^ 30) (hQ : ∀ σ9 τ9, Q (.inl (some (.int 1))) σ9 τ9 z) : ∀ (r i B : Nat) (σ : kn_S) (τ : kn_T), X.1 ≤ i + 5 * r → i ≤ X.1 → B + 1000 * r + 2000 < 16777216 → kr_Ws σ B → kn_Go X ML_law 28 [(5, .int (nI i)), (4, .ref 134), (3, .ref 133), (2, .ref 128), (1, .ref 0), (0, .retAddr 0)] [] σ τ z (c + 2 * r) (n + 12 * r) Q := by
  have hexit : ∀ (i : Nat) (σ : kn_S) (τ : kn_T) (c n : Nat), kn_Go X ML_law 1781 [(5, .int (nI i)), (4, .ref 134), (3, .ref 133), (2, .ref 128), (1, .ref 0), (0, .retAddr 0)] [] σ τ z c n Q := fun i σ τ c n => by
    refine k_iconst (1) dL_law_1781 (by decide) ?_
    refine k_iret dL_law_1782 rfl rfl ?_
    exact hQ σ τ
  have e5 : (5 : Int32).toInt = 5 := by decide
  have hcmp : ∀ i : Nat, i ≤ X.1 → (nI X.1 - 5 < nI i ↔ X.1 < i + 5) := fun i hi => by
    have e1 : (nI X.1 - 5).toInt = (X.1 : Int) - 5 := by rw [kr_sI (by rw [nI_toInt (by omega), e5]; omega), nI_toInt (by omega), e5]
    rw [Int32.lt_iff_toInt_lt, e1, nI_toInt (by omega)]
    omega
  intro r
  induction r with
  | zero =>
    intro i B σ τ h1 h2 hB W
    refine k_iload dL_law_28 rfl ?_
    refine k_aload_nR 0 dL_law_30 rfl rfl ?_
    refine k_rolen dL_law_31 (by decide) ?_
    refine k_iconst (5) dL_law_32 (by decide) ?_
    refine k_isub dL_law_33 ?_
    refine k_icmpgt 1781 dL_law_34 (by decide) (fun _ => hexit i _ _ _ _) (fun h => absurd ((hcmp i h2).mpr (by omega)) h)
  | succ r ih =>
    intro i B σ τ h1 h2 hB W
    refine k_iload dL_law_28 rfl ?_
    refine k_aload_nR 0 dL_law_30 rfl rfl ?_
    refine k_rolen dL_law_31 (by decide) ?_
    refine k_iconst (5) dL_law_32 (by decide) ?_
    refine k_isub dL_law_33 ?_
    refine k_icmpgt 1781 dL_law_34 (by decide) (fun _ => hexit i _ _ _ _) (fun h => ?_)
    have hi : i + 5 ≤ X.1 := by
      rcases Nat.lt_or_ge X.1 (i + 5) with q | q
      · exact absurd ((hcmp i h2).mpr q) h
      · exact q
    refine k_aload_nR 0 dL_law_37 rfl rfl ?_
    refine k_iload dL_law_38 rfl ?_
    refine k_roload dL_law_40 (by decide) (vp_in_nI (n := i) (show i < X.1 by omega) (show X.1 < 2 ^ 31 by omega)) ?_
    refine k_bipush (31) dL_law_41 (by decide) ?_
    refine k_iand dL_law_43 ?_
    rw [show c + 2 * (r + 1) = (c + 2 * r) + 2 by omega, show n + 12 * (r + 1) = (n + 12 * r) + 12 by omega]
    refine m_law_switch hV W (by omega) hi (by omega) (fun σ9 τ9 W9 => ?_)
    refine k_iinc (nI (i + 5)) (lv' := [(5, _), (4, _), (3, _), (2, _), (1, _), (0, _)]) dL_law_1775 rfl (nI_add i 5) (by decide) rfl ?_
    refine k_goto 28 dL_law_1778 (by decide) ?_
    exact ih (i + 5) (B + 1000) σ9 τ9 (by omega) (by omega) (by omega) W9
