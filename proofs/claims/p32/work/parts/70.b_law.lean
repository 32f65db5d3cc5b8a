-- the law's loop
set_option maxRecDepth 100000 in
set_option maxHeartbeats 4000000 in
theorem m_law_iter {X : kn_X} {σ : kn_S} {τ : kn_T} {z : kn_Z} {B m fi t c n : Nat} {g : Nat → Int32} {l : List kw_G} {Q : kn_Q} (hX : X.1 < 2 ^ 31) (hK : kn_isK z) (W : kw_W σ B g m fi l) (hB : B + 20000 < 1000000000) (ht : t < 26) (hk : ∀ (σ8 : kn_S) (g8 : Nat → Int32) (m8 f8 : Nat) (l8 : List kw_G), kw_W σ8 (B + 10000) g8 m8 f8 l8 → kn_Go X ML_lawK 549 [(3, .int (nI t)), (2, .int 1), (1, .ref 0), (0, .retAddr 0)] [] σ8 τ z c n Q) : kn_Go X ML_lawK 50 [(3, .int (nI t)), (2, .int 1), (1, .ref 0), (0, .retAddr 0)] [] σ τ z (c + 10604) (n + 63624) Q := by
  have W0 := W
  obtain ⟨⟨h, hfi, hJ⟩, -⟩ := W0
  obtain ⟨lc, hl, hlc⟩ := kw_lc hJ.1.2.2.2.2
  refine k_aload_nR 0 dL_law_50 rfl rfl ?_
  refine k_iload_n 3 dL_law_51 rfl rfl ?_
  refine k_invS (As := [_, _]) dL_law_52 mm_L_cell wL_L_178 ⟨by decide, by decide⟩ rfl rfl (Nat.le_of_ble_eq_true rfl) (Nat.zero_le _) (Nat.zero_le _) (m_L_cell hX (by omega) (fun x9 => ⟨rfl, ?_⟩))
  refine k_istore (lv' := [(4, _), (3, _), (2, _), (1, _), (0, _)]) dL_law_55 (by decide) rfl ?_
  refine k_iload dL_law_57 rfl ?_
  refine k_iconst (5) dL_law_59 (by decide) ?_
  refine k_ishr dL_law_60 ?_
  refine k_ldc dL_law_61 wK_L_182 ?_
  refine k_invS (As := [_, _]) dL_law_63 mm_L_low wL_L_153 ⟨by decide, by decide⟩ rfl rfl (Nat.le_of_ble_eq_true rfl) (Nat.zero_le _) (Nat.zero_le _) (m_L_low (k := 100000) (by decide) (by decide) (fun y hy => ⟨rfl, ?_⟩))
  refine k_istore (lv' := [(5, _), (4, _), (3, _), (2, _), (1, _), (0, _)]) dL_law_66 (by decide) rfl ?_
  refine k_sipush (500) dL_law_68 (by decide) ?_
  refine k_iload dL_law_71 rfl ?_
  refine k_iconst (3) dL_law_73 (by decide) ?_
  refine k_ishr dL_law_74 ?_
  refine k_sipush (6501) dL_law_75 (by decide) ?_
  refine k_invS (As := [_, _]) dL_law_78 mm_L_low wL_L_153 ⟨by decide, by decide⟩ rfl rfl (Nat.le_of_ble_eq_true rfl) (Nat.zero_le _) (Nat.zero_le _) (m_L_low (k := 6501) (by decide) (by decide) (fun sj hsj => ⟨rfl, ?_⟩))
  refine k_iadd dL_law_81 ?_
  rw [show (500 : Int32) + nI sj = nI (500 + sj) from nI_add 500 sj]
  refine k_istore (lv' := [(6, _), (5, _), (4, _), (3, _), (2, _), (1, _), (0, _)]) dL_law_82 (by decide) rfl ?_
  refine k_iload dL_law_84 rfl ?_
  refine k_bipush (8) dL_law_86 (by decide) ?_
  refine k_ishr dL_law_88 ?_
  refine k_bipush (101) dL_law_89 (by decide) ?_
  refine k_invS (As := [_, _]) dL_law_91 mm_L_low wL_L_153 ⟨by decide, by decide⟩ rfl rfl (Nat.le_of_ble_eq_true rfl) (Nat.zero_le _) (Nat.zero_le _) (m_L_low (k := 101) (by decide) (by decide) (fun lo hlo => ⟨rfl, ?_⟩))
  refine k_istore (lv' := [(7, _), (6, _), (5, _), (4, _), (3, _), (2, _), (1, _), (0, _)]) dL_law_94 (by decide) rfl ?_
  refine k_aload_n 1 dL_law_96 rfl rfl ?_
  refine k_invS2 (c + 10004) (n + 60024) (As := [_]) dL_law_97 mm_L_print wL_L_115 ⟨by decide, by decide⟩ rfl rfl (Nat.le_of_ble_eq_true rfl) (by omega) (by omega) (m_L_print hK h hl hlc ⟨rfl, ?_⟩)
  refine k_lstore (lv' := [(8, _), (7, _), (6, _), (5, _), (4, _), (3, _), (2, _), (1, _), (0, _)]) dL_law_100 (by decide) rfl ?_
  refine k_iconst (0) dL_law_102 (by decide) ?_
  refine k_istore (lv' := [(10, _), (8, _), (7, _), (6, _), (5, _), (4, _), (3, _), (2, _), (1, _), (0, _)]) dL_law_103 (by decide) rfl ?_
  refine k_iload dL_law_105 rfl ?_
  refine k_bipush (12) dL_law_107 (by decide) ?_
  refine k_invS (As := [_, _]) dL_law_109 mm_L_low wL_L_153 ⟨by decide, by decide⟩ rfl rfl (Nat.le_of_ble_eq_true rfl) (Nat.zero_le _) (Nat.zero_le _) (m_L_low (k := 12) (by decide) (by decide) (fun sw hsw => ⟨rfl, ?_⟩))
  exact k_room (by omega) (by omega) (m_law_behind hK W hl hlc hB hy (show 500 ≤ 500 + sj by omega) (by omega) (by omega) hk sw hsw)
set_option maxRecDepth 100000 in
set_option maxHeartbeats 4000000 in
theorem m_law_loop {X : kn_X} {τ : kn_T} {z : kn_Z} {Q : kn_Q} (hX : X.1 < 2 ^ 31) (hK : kn_isK z) (hQ : ∀ σ9 τ9, Q (.inl (some (.int 1))) σ9 τ9 z) : ∀ (r t : Nat) (σ : kn_S) (g : Nat → Int32) (m fi : Nat) (l : List kw_G), t + r = 26 → kw_W σ (10000 * t) g m fi l → kn_Go X ML_lawK 40 [(3, .int (nI t)), (2, .int 1), (1, .ref 0), (0, .retAddr 0)] [] σ τ z (10604 * r + 1300) (63624 * r + 7800) Q := by
  intro r
  induction r with
  | zero =>
    intro t σ g m fi l ht W
    obtain rfl : t = 26 := by omega
    refine k_iload_n 3 dL_law_40 rfl rfl ?_
    refine k_bipush (26) dL_law_41 (by decide) ?_
    refine k_icmpge 555 dL_law_43 (by decide) (fun h43 => ?_) (fun h43 => ?_)
    · refine k_iload_n 2 dL_law_555 rfl rfl ?_
      refine k_ifeq 570 dL_law_556 (by decide) (fun h556 => ?_) (fun h556 => ?_)
      · exact absurd h556 (by decide)
      · refine k_aload_n 1 dL_law_559 rfl rfl ?_
        refine k_invS2 (0) (0) (As := [_]) dL_law_560 mm_L_refused wL_L_170 ⟨by decide, by decide⟩ rfl rfl (Nat.le_of_ble_eq_true rfl) (by omega) (by omega) (m_L_refused hK W ⟨rfl, ?_⟩)
        refine k_ifeq 570 dL_law_563 (by decide) (fun h563 => ?_) (fun h563 => ?_)
        · exact absurd h563 (by decide)
        · refine k_iconst (1) dL_law_566 (by decide) ?_
          refine k_goto 571 dL_law_567 (by decide) ?_
          refine k_iret dL_law_571 rfl (rfl) ?_
          exact hQ _ _
    · exact absurd (show (26 : Int32) ≤ nI 26 from nI_le (Nat.le_refl 26) (by decide)) h43
  | succ r ih =>
    intro t σ g m fi l ht W
    refine k_iload_n 3 dL_law_40 rfl rfl ?_
    refine k_bipush (26) dL_law_41 (by decide) ?_
    refine k_icmpge 555 dL_law_43 (by decide) (fun h43 => ?_) (fun h43 => ?_)
    · exact absurd h43 (show ¬ (26 : Int32) ≤ nI t from nI_ge (a := t) (b := 26) (by omega) (by decide))
    · refine k_iload_n 2 dL_law_46 rfl rfl ?_
      refine k_ifeq 555 dL_law_47 (by decide) (fun h47 => ?_) (fun h47 => ?_)
      · exact absurd h47 (by decide)
      · refine k_room (c' := (10604 * r + 1300) + 10604) (n' := (63624 * r + 7800) + 63624) (by omega) (by omega) (m_law_iter hX hK W (by omega) (by omega) (fun σ8 g8 m8 f8 l8 W8 => ?_))
        refine k_iinc (nI (t + 1)) (lv' := [(3, _), (2, _), (1, _), (0, _)]) dL_law_549 rfl (kn_inc t) (by decide) rfl ?_
        refine k_goto 40 dL_law_552 (by decide) ?_
        exact ih (t + 1) _ _ _ _ _ (by omega) (W8.to (by omega) (fun _ _ _ _ => rfl))
-- the law, from its first instruction
theorem kn_dX6 : ∀ j, j < 4 → ∃ d, ([some .null, some .null, some .null, some .null] : List (Option Value))[j]? = some d ∧ defaultValue (tyX6 j) = kn_df d := by
  intro j hj
  rcases j with _ | _ | _ | _ | j
  · exact ⟨some .null, rfl, rfl⟩
  · exact ⟨some .null, rfl, rfl⟩
  · exact ⟨some .null, rfl, rfl⟩
  · exact ⟨some .null, rfl, rfl⟩
  · omega
/-- the row before it is begun -/
def kw_g0 : Nat → Int32 := fun k => if k < 8 then kn_first k else if k = 10 then 1 else 0
theorem kw_start {X : kn_X} {s σa : kn_S} (h1 : ∀ a, 1 ≤ a → a < 21 → s a = kn_sI X σa 1 a) (h41 : s 41 1 = 0 ∧ s 41 2 = 0) (h01 : ∀ r, r < 4 → s (43 + 20 * r) 12 = 0 ∧ s (43 + 20 * r) 16 = 0) (h123 : s 123 2 = 0) : kw_W s 0 (kw_new kw_g0 4) 4 0 [] := by
  have hg : ∀ c, c < 8 → kx kw_g0 129 c = kn_first c := fun c hc => by rw [kx_129]; exact if_pos hc
  have hle : ∀ c, c < 8 → kr_le (kn_first c) 1000 ∧ (kn_least c).toInt ≤ (kn_first c).toInt ∧ (kn_first c).toInt ≤ (kn_most c).toInt := fun c hc => by
    have : c = 0 ∨ c = 1 ∨ c = 2 ∨ c = 3 ∨ c = 4 ∨ c = 5 ∨ c = 6 ∨ c = 7 := by omega
    rcases this with rfl | rfl | rfl | rfl | rfl | rfl | rfl | rfl
    · exact ⟨⟨40, by decide, rfl⟩, by decide⟩
    · exact ⟨⟨10, by decide, rfl⟩, by decide⟩
    · exact ⟨⟨20, by decide, rfl⟩, by decide⟩
    · exact ⟨⟨150, by decide, rfl⟩, by decide⟩
    · exact ⟨⟨40, by decide, rfl⟩, by decide⟩
    · exact ⟨⟨30, by decide, rfl⟩, by decide⟩
    · exact ⟨⟨10, by decide, rfl⟩, by decide⟩
    · exact ⟨⟨60, by decide, rfl⟩, by decide⟩
  have e10 : kx kw_g0 129 10 = 1 := by rw [kx_129]; rfl
  have e11 : kx kw_g0 129 11 = 0 := by rw [kx_129]; rfl
  refine ⟨⟨?_, Nat.le_refl _, kw_newJ kw_g0 (fun k hk => by rw [show kw_g0 k = kn_first k from if_pos hk]; exact (hle k hk).2) (by decide)⟩, 0, 0, 0, ⟨⟨⟨h41.1, by decide⟩, ⟨h41.2, by decide⟩, rfl⟩, fun j q hq => absurd hq (by simp), fun r hr => ⟨Or.inl (h01 r hr).1, Or.inl (h01 r hr).2⟩⟩, h123, by decide⟩
  have hR := kr_restart (s := kn_up (kn_up (kf_ini X σa 1 8) 1 15 1) 1 16 0) (b := 1) (t := kx kw_g0) (M := 4) (by decide) (fun c hc => ?_) (by rw [hg 0 (by decide)]; exact ⟨40, by decide, rfl⟩) ⟨?_, by rw [e10]; exact ⟨1, by decide, rfl⟩⟩ ⟨by rw [e11]; rfl, by rw [e11]; exact Or.inl rfl⟩
  · exact hR.to fun a q1 q2 => by rw [h1 a q1 (by omega)]; rfl
  · rw [kn_up_ne _ _ _ (by decide), kn_up_ne _ _ _ (by decide), kf_ini_at X σa 8 hc (Nat.le_refl _), hg c hc]
    exact ⟨rfl, (hle c hc).1⟩
  · rw [e10, kn_upk (by decide)]; rfl
set_option maxRecDepth 100000 in
set_option maxHeartbeats 4000000 in
theorem m_law {X : kn_X} {σ : kn_S} {τ : kn_T} {z : kn_Z} {Q : kn_Q} (hz0 : z.1 = 0) (hL : X.1 ≤ 260) (hQ : ∀ σ9 τ9 z9, Q (.inl (some (.int 1))) σ9 τ9 z9) : kn_Go X ML_lawK 0 [(0, .retAddr 0)] [] σ τ z 300000 1800000 Q := by
  have v0 : ∀ N, kn_vok N (([(0, Value.retAddr 0)] : kn_L).map (fun q => q.2)) := fun N r hr => by simp at hr
  have vn : ∀ N, kn_vok N ([] : List Value) := fun N r hr => absurd hr List.not_mem_nil
  have vs : ∀ N k, k < N → kn_vok N [Value.ref k] := fun N k h r hr => by cases List.mem_singleton.mp hr; exact h
  refine k_room (c' := 299999 + 1) (n' := 1799996 + 4) (by decide) (by decide) ?_
  refine k_new dL_law_0 hc_X6 wC_L_10 wI_X6 wN_X6 kn_dX6 (fun r hr => by simp at hr) (vn _) (v0 _) ?_
  rw [hz0]
  refine k_dup dL_law_3 rfl ?_
  have zan : (kn_zZ z (.inl (5, [some .null, some .null, some .null, some .null]))).1 = 1 := by show z.1 + 1 = 1; omega
  have zae : (kn_zZ z (.inl (5, [some .null, some .null, some .null, some .null]))).2 0 = .inl (5, [some .null, some .null, some .null, some .null]) := if_pos hz0.symm
  generalize kn_zZ z (.inl (5, [some .null, some .null, some .null, some .null])) = za at zan zae ⊢
  refine k_room (c' := (0 + 127) + 299000) (n' := (0 + 1843) + 1794000) (by decide) (by decide) ?_
  refine k_invI (As := []) (i := 0) (rest := [.ref 0]) (c1 := 0 + 127) (n1 := 0 + 1843) dL_law_4 mm_X6_init wL_L_169 ⟨by decide, by decide⟩ rfl rfl (Nat.le_of_ble_eq_true rfl) (Nat.le_add_right _ _) (Nat.le_add_right _ _) (vs _ _ (by omega)) (v0 _) ?_
  refine m_X6_init zan zae (fun σ1 τ1 z1 e1 hK hσa h41 h01 h123 => ?_)
  rw [Nat.add_sub_cancel_left, Nat.add_sub_cancel_left]
  show kn_Go X ML_lawK 7 [(0, .retAddr 0)] [.ref 0] σ1 τ1 z1 299000 1794000 Q
  obtain ⟨σa, -, hσ⟩ := hσa
  have W := kw_start hσ h41 h01 h123
  have W0 := W
  obtain ⟨-, o, k, len, h4, h5, h6⟩ := W0
  obtain rfl : k = 0 := h4.1.2.2.symm
  have hI := kw_IX W.1.1 h4 h5 h6
  refine k_astore_n 1 (lv' := [(1, _), (0, _)]) dL_law_7 rfl (by decide) rfl ?_
  refine k_aload_n 1 dL_law_8 rfl rfl ?_
  refine k_invSH2 (298998) (1793988) (As := [_]) dL_law_9 mm_L_undo wL_L_160 ⟨by decide, by decide⟩ rfl rfl (Nat.le_of_ble_eq_true rfl) (by omega) (by omega) (cx_undo hK hI ⟨rfl, ?_⟩)
  refine k_ldc dL_law_12 wK_L_85 ?_
  refine k_icmpne 36 dL_law_14 (by decide) (fun h14 => ?_) (fun h14 => ?_)
  · exact absurd rfl h14
  · refine k_aload_n 1 dL_law_17 rfl rfl ?_
    refine k_invS2 (297698) (1786188) (As := [_]) dL_law_18 mm_L_refused wL_L_170 ⟨by decide, by decide⟩ rfl rfl (Nat.le_of_ble_eq_true rfl) (by omega) (by omega) (m_L_refused hK W ⟨rfl, ?_⟩)
    refine k_ifeq 36 dL_law_21 (by decide) (fun h21 => ?_) (fun h21 => ?_)
    · exact absurd h21 (by decide)
    · refine k_aload_n 1 dL_law_24 rfl rfl ?_
      refine k_iconst (5) dL_law_25 (by decide) ?_
      refine k_invS2 (296298) (1777788) (As := [_, _]) dL_law_26 mm_L_areFit wL_L_174 ⟨by decide, by decide⟩ rfl rfl (Nat.le_of_ble_eq_true rfl) (by omega) (by omega) (m_L_areFit hK W (by decide) ⟨rfl, ?_⟩)
      refine k_ifeq 36 dL_law_29 (by decide) (fun h29 => ?_) (fun h29 => ?_)
      · exact absurd h29 (by decide)
      · refine k_iconst (1) dL_law_32 (by decide) ?_
        refine k_goto 37 dL_law_33 (by decide) ?_
        refine k_istore_n 2 (lv' := [(2, _), (1, _), (0, _)]) dL_law_37 rfl (by decide) rfl ?_
        refine k_iconst (0) dL_law_38 (by decide) ?_
        refine k_istore_n 3 (lv' := [(3, _), (2, _), (1, _), (0, _)]) dL_law_39 rfl (by decide) rfl ?_
        exact k_room (c' := 10604 * 26 + 1300) (n' := 63624 * 26 + 7800) (by decide) (by decide) (m_law_loop (by omega) hK (fun σ9 τ9 => hQ σ9 τ9 z1) 26 0 σ1 _ _ _ _ (by decide) W)
