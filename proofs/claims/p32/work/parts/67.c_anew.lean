-- begun anew
set_option maxRecDepth 100000 in
set_option maxHeartbeats 4000000 in
theorem m_L_isAnew {X : kn_X} {σ : kn_S} {τ : kn_T} {z : kn_Z} {Q : kn_Q} {B m fi N : Nat} {g : Nat → Int32} {l : List kw_G} (hK : kn_isK z) (W : kw_W σ B g m fi l) (hB : B + 10000 < 1000000000) (hN : 2 ≤ N ∧ N ≤ 8) (hQ : ∀ (σ9 : kn_S) (l9 : List kw_G), kw_W σ9 B g m fi l9 → Q (.inl (some (.int 1))) σ9 τ z) : kn_Ev X ML_isAnew [.ref 0, .int (nI N)] σ τ z 1500 9000 Q := by
  have W0 := W
  obtain ⟨⟨h, hfi, hJ⟩, -⟩ := W
  have hm := h.1.2.2.1.2
  obtain ⟨lc, hl, hlc⟩ := kw_lc hJ.1.2.2.2.2
  refine kn_entry (by decide +kernel) rfl (Nat.le_of_ble_eq_true rfl) ?_
  show kn_Go X ML_isAnew 0 [(0, .ref 0), (1, .int (nI N))] [] _ _ _ _ _ _
  have lp122 : ∀ r9 : Nat, ∀ (k : Nat), k + r9 = N → ∀ (a5 a4 : Int32) (σ8 : kn_S) (l8 : List kw_G), kw_W σ8 B (kw_new g N) N 0 ((g, m, fi) :: l8) → kn_Go X ML_isAnew 122 [(7, .int (nI k)), (6, .int 1), (5, .int a5), (4, .int a4), (2, .long (kw_pr g m fi lc)), (1, .int (nI N)), (0, .ref 0)] [] σ8 τ z (14 * r9 + 700) (84 * r9 + 4200) Q := by
    intro r9
    induction r9 with
    | zero =>
      intro k hk a5 a4 σ8 l8 W8
      obtain rfl : N = k := by omega
      refine k_iload dL_isAnew_122 rfl ?_
      refine k_iload_n 1 dL_isAnew_124 rfl rfl ?_
      refine k_icmpge 213 dL_isAnew_125 (by decide) (fun h125 => ?_) (fun h125 => ?_)
      · refine k_iload dL_isAnew_213 rfl ?_
        refine k_ifeq 249 dL_isAnew_215 (by decide) (fun h215 => ?_) (fun h215 => ?_)
        · exact absurd h215 (by decide)
        · refine k_aload_n 0 dL_isAnew_218 rfl rfl ?_
          refine k_iload_n 1 dL_isAnew_219 rfl rfl ?_
          refine k_iconst (0) dL_isAnew_220 (by decide) ?_
          refine k_invSH2 (698) (4188) (As := [_, _, _]) dL_isAnew_221 mm_L_cylinder wL_L_108 ⟨by decide, by decide⟩ rfl rfl (Nat.le_of_ble_eq_true rfl) (by omega) (by omega) (cx_cylinder hK W8.1.1 (Nat.le_refl N) hN.2 ⟨rfl, ?_⟩)
          refine k_ldc dL_isAnew_224 wK_L_31 ?_
          refine k_icmpne 249 dL_isAnew_226 (by decide) (fun h226 => ?_) (fun h226 => ?_)
          · exact absurd rfl h226
          · refine k_aload_n 0 dL_isAnew_229 rfl rfl ?_
            refine k_invSH2 (696) (4176) (As := [_]) dL_isAnew_230 mm_L_undo wL_L_160 ⟨by decide, by decide⟩ rfl rfl (Nat.le_of_ble_eq_true rfl) (by omega) (by omega) (cw_undo (q := (g, m, fi)) hK W8 (fun σ9 k9 hk9 W9 => ⟨rfl, ?_⟩))
            refine k_iflt 249 dL_isAnew_233 (by decide) (fun h233 => ?_) (fun h233 => ?_)
            · exact absurd h233 (nI_pos (by omega))
            · refine k_aload_n 0 dL_isAnew_236 rfl rfl ?_
              refine k_invS2 (96) (576) (As := [_]) dL_isAnew_237 mm_L_print wL_L_115 ⟨by decide, by decide⟩ rfl rfl (Nat.le_of_ble_eq_true rfl) (by omega) (by omega) (m_L_print (m := m) (fi := fi) (g := g) hK W9.1.1 hl hlc ⟨rfl, ?_⟩)
              refine k_lload_n 2 dL_isAnew_240 rfl rfl ?_
              refine k_lcmp dL_isAnew_241 ?_
              rw [kr_lcmp]
              refine k_ifne 249 dL_isAnew_242 (by decide) (fun h242 => ?_) (fun h242 => ?_)
              · exact absurd rfl h242
              · refine k_iconst (1) dL_isAnew_245 (by decide) ?_
                refine k_goto 250 dL_isAnew_246 (by decide) ?_
                refine k_iret dL_isAnew_250 rfl (rfl) ?_
                exact hQ _ _ W9
      · exact absurd (nI_le (Nat.le_refl N) (by omega)) h125
    | succ r9 ih =>
      intro k hk a5 a4 σ8 l8 W8
      refine k_iload dL_isAnew_122 rfl ?_
      refine k_iload_n 1 dL_isAnew_124 rfl rfl ?_
      refine k_icmpge 213 dL_isAnew_125 (by decide) (fun h125 => ?_) (fun h125 => ?_)
      · exact absurd h125 (nI_ge (by omega) (by omega))
      · refine k_iload dL_isAnew_128 rfl ?_
        refine k_ifeq 213 dL_isAnew_130 (by decide) (fun h130 => ?_) (fun h130 => ?_)
        · exact absurd h130 (by decide)
        · refine k_aload_n 0 dL_isAnew_133 rfl rfl ?_
          refine k_iload dL_isAnew_134 rfl ?_
          refine k_iconst (0) dL_isAnew_136 (by decide) ?_
          refine k_invSH2 (14 * r9 + 712) (84 * r9 + 4272) (As := [_, _, _]) dL_isAnew_137 mm_L_cylinder wL_L_108 ⟨by decide, by decide⟩ rfl rfl (Nat.le_of_ble_eq_true rfl) (by omega) (by omega) (cw_cylinder (c := k) (w := 0) hK W8.1.1 (by omega) (by decide) ⟨rfl, ?_⟩)
          refine k_ifne 204 dL_isAnew_140 (by decide) (fun h140 => ?_) (fun h140 => ?_)
          · exact absurd (show kw_cyl (kw_new g N) k 0 = 0 from kw_new0 g N (j := 17 + k) (by omega) (by omega)) h140
          · refine k_aload_n 0 dL_isAnew_143 rfl rfl ?_
            refine k_iload dL_isAnew_144 rfl ?_
            refine k_iconst (1) dL_isAnew_146 (by decide) ?_
            refine k_invSH2 (14 * r9 + 710) (84 * r9 + 4260) (As := [_, _, _]) dL_isAnew_147 mm_L_cylinder wL_L_108 ⟨by decide, by decide⟩ rfl rfl (Nat.le_of_ble_eq_true rfl) (by omega) (by omega) (cw_cylinder (c := k) (w := 1) hK W8.1.1 (by omega) (by decide) ⟨rfl, ?_⟩)
            refine k_ldc dL_isAnew_150 wK_L_168 ?_
            refine k_icmpne 204 dL_isAnew_152 (by decide) (fun h152 => ?_) (fun h152 => ?_)
            · exact absurd (show kw_cyl (kw_new g N) k 1 = 51200 from by show kw_new g N (25 + k) = 51200; rw [kw_new_at g N (by omega), if_pos (by omega)]) h152
            · refine k_aload_n 0 dL_isAnew_155 rfl rfl ?_
              refine k_iload dL_isAnew_156 rfl ?_
              refine k_iconst (2) dL_isAnew_158 (by decide) ?_
              refine k_invSH2 (14 * r9 + 708) (84 * r9 + 4248) (As := [_, _, _]) dL_isAnew_159 mm_L_cylinder wL_L_108 ⟨by decide, by decide⟩ rfl rfl (Nat.le_of_ble_eq_true rfl) (by omega) (by omega) (cw_cylinder (c := k) (w := 2) hK W8.1.1 (by omega) (by decide) ⟨rfl, ?_⟩)
              refine k_ifne 204 dL_isAnew_162 (by decide) (fun h162 => ?_) (fun h162 => ?_)
              · exact absurd (show kw_cyl (kw_new g N) k 2 = 0 from kw_new0 g N (j := 33 + k) (by omega) (by omega)) h162
              · refine k_aload_n 0 dL_isAnew_165 rfl rfl ?_
                refine k_iload dL_isAnew_166 rfl ?_
                refine k_iconst (3) dL_isAnew_168 (by decide) ?_
                refine k_invSH2 (14 * r9 + 706) (84 * r9 + 4236) (As := [_, _, _]) dL_isAnew_169 mm_L_cylinder wL_L_108 ⟨by decide, by decide⟩ rfl rfl (Nat.le_of_ble_eq_true rfl) (by omega) (by omega) (cw_cylinder (c := k) (w := 3) hK W8.1.1 (by omega) (by decide) ⟨rfl, ?_⟩)
                refine k_ldc dL_isAnew_172 wK_L_168 ?_
                refine k_aload_n 0 dL_isAnew_174 rfl rfl ?_
                refine k_iconst (0) dL_isAnew_175 (by decide) ?_
                refine k_invSH2 (14 * r9 + 704) (84 * r9 + 4224) (As := [_, _]) dL_isAnew_176 mm_L_value wL_L_101 ⟨by decide, by decide⟩ rfl rfl (Nat.le_of_ble_eq_true rfl) (by omega) (by omega) (cw_value (k := 0) hK W8.1.1 (by decide) ⟨rfl, ?_⟩)
                refine k_imul dL_isAnew_179 ?_
                refine k_sipush (4096) dL_isAnew_180 (by decide) ?_
                refine k_idiv dL_isAnew_183 (by decide) ?_
                refine k_bipush (50) dL_isAnew_184 (by decide) ?_
                refine k_iadd dL_isAnew_186 ?_
                refine k_icmpne 204 dL_isAnew_187 (by decide) (fun h187 => ?_) (fun h187 => ?_)
                · exact absurd (show kw_cyl (kw_new g N) k 3 = 51200 * kw_val (kw_new g N) N 0 / 4096 + 50 from by show kg_thr (kx (kw_new g N)) k = 51200 * kw_new g N 0 / 4096 + 50; unfold kg_thr; rw [kx_129, kw_new_at g N (j := 25 + k) (by omega), if_pos (by omega)]) h187
                · refine k_aload_n 0 dL_isAnew_190 rfl rfl ?_
                  refine k_iload dL_isAnew_191 rfl ?_
                  refine k_iconst (4) dL_isAnew_193 (by decide) ?_
                  refine k_invSH2 (14 * r9 + 702) (84 * r9 + 4212) (As := [_, _, _]) dL_isAnew_194 mm_L_cylinder wL_L_108 ⟨by decide, by decide⟩ rfl rfl (Nat.le_of_ble_eq_true rfl) (by omega) (by omega) (cw_cylinder (c := k) (w := 4) hK W8.1.1 (by omega) (by decide) ⟨rfl, ?_⟩)
                  refine k_ifne 204 dL_isAnew_197 (by decide) (fun h197 => ?_) (fun h197 => ?_)
                  · exact absurd (show kw_cyl (kw_new g N) k 4 = 0 from kw_new0 g N (j := 41 + k) (by omega) (by omega)) h197
                  · refine k_iconst (1) dL_isAnew_200 (by decide) ?_
                    refine k_goto 205 dL_isAnew_201 (by decide) ?_
                    refine k_istore (lv' := [(6, _), (7, _), (5, _), (4, _), (2, _), (1, _), (0, _)]) dL_isAnew_205 (by decide) rfl ?_
                    refine k_iinc (nI (k + 1)) (lv' := [(7, _), (6, _), (5, _), (4, _), (2, _), (1, _), (0, _)]) dL_isAnew_207 rfl (kn_inc k) (by decide) rfl ?_
                    refine k_goto 122 dL_isAnew_210 (by decide) ?_
                    exact k_room (c' := 14 * r9 + 700) (n' := 84 * r9 + 4200) (by omega) (by omega) (ih (k + 1) (by omega) _ _ _ _ W8)
  refine k_aload_n 0 dL_isAnew_0 rfl rfl ?_
  refine k_invS2 (900) (5400) (As := [_]) dL_isAnew_1 mm_L_print wL_L_115 ⟨by decide, by decide⟩ rfl rfl (Nat.le_of_ble_eq_true rfl) (by omega) (by omega) (m_L_print hK h hl hlc ⟨rfl, ?_⟩)
  refine k_lstore_n 2 (lv' := [(2, _), (0, _), (1, _)]) dL_isAnew_4 rfl (by decide) rfl ?_
  refine k_aload_n 0 dL_isAnew_5 rfl rfl ?_
  refine k_invV (As := []) dL_isAnew_6 mm_X6_firings wL_L_92 ⟨by decide, by decide⟩ hK.1.1 hK.1.2 rfl rfl (Nat.le_of_ble_eq_true rfl) (Nat.zero_le _) (Nat.zero_le _) (cw_firings hK h ⟨rfl, ?_⟩)
  refine k_istore (lv' := [(4, _), (2, _), (0, _), (1, _)]) dL_isAnew_9 (by decide) rfl ?_
  refine k_aload_n 0 dL_isAnew_11 rfl rfl ?_
  refine k_iconst (1) dL_isAnew_12 (by decide) ?_
  refine k_invSH2 (898) (5388) (As := [_, _]) dL_isAnew_13 mm_L_value wL_L_101 ⟨by decide, by decide⟩ rfl rfl (Nat.le_of_ble_eq_true rfl) (by omega) (by omega) (cw_value (k := 1) hK h (by decide) ⟨rfl, ?_⟩)
  refine k_istore (lv' := [(5, _), (4, _), (2, _), (0, _), (1, _)]) dL_isAnew_16 (by decide) rfl ?_
  refine k_aload_n 0 dL_isAnew_18 rfl rfl ?_
  refine k_iload_n 1 dL_isAnew_19 rfl rfl ?_
  refine k_invSH2 (896) (5376) (As := [_, _]) dL_isAnew_20 mm_L_begin wL_L_119 ⟨by decide, by decide⟩ rfl rfl (Nat.le_of_ble_eq_true rfl) (by omega) (by omega) (cw_begin hK W0 hN (fun σ1 W1 => ⟨rfl, ?_⟩))
  refine k_iload dL_isAnew_23 rfl ?_
  refine k_icmpne 116 dL_isAnew_25 (by decide) (fun h25 => ?_) (fun h25 => ?_)
  · exact absurd rfl h25
  · refine k_aload_n 0 dL_isAnew_28 rfl rfl ?_
    refine k_invV (As := []) dL_isAnew_29 mm_X6_firings wL_L_92 ⟨by decide, by decide⟩ hK.1.1 hK.1.2 rfl rfl (Nat.le_of_ble_eq_true rfl) (Nat.zero_le _) (Nat.zero_le _) (cw_firings hK W1.1.1 ⟨rfl, ?_⟩)
    refine k_ifne 116 dL_isAnew_32 (by decide) (fun h32 => ?_) (fun h32 => ?_)
    · exact absurd nI_0 h32
    · refine k_aload_n 0 dL_isAnew_35 rfl rfl ?_
      refine k_invV (As := []) dL_isAnew_36 mm_X6_next wL_L_98 ⟨by decide, by decide⟩ hK.1.1 hK.1.2 rfl rfl (Nat.le_of_ble_eq_true rfl) (Nat.zero_le _) (Nat.zero_le _) (cw_next hK W1.1.1 ⟨rfl, ?_⟩)
      rw [Nat.zero_mod]
      refine k_ifne 116 dL_isAnew_39 (by decide) (fun h39 => ?_) (fun h39 => ?_)
      · exact absurd nI_0 h39
      · refine k_aload_n 0 dL_isAnew_42 rfl rfl ?_
        refine k_invV (As := []) dL_isAnew_43 mm_X6_events wL_L_95 ⟨by decide, by decide⟩ hK.1.1 hK.1.2 rfl rfl (Nat.le_of_ble_eq_true rfl) (Nat.zero_le _) (Nat.zero_le _) (cw_events hK W1.1.1 ⟨rfl, ?_⟩)
        refine k_ifne 116 dL_isAnew_46 (by decide) (fun h46 => ?_) (fun h46 => ?_)
        · exact absurd (kw_new0 g N (j := 73) (by omega) (by omega)) h46
        · refine k_aload_n 0 dL_isAnew_49 rfl rfl ?_
          refine k_iconst (1) dL_isAnew_50 (by decide) ?_
          refine k_invSH2 (894) (5364) (As := [_, _]) dL_isAnew_51 mm_L_value wL_L_101 ⟨by decide, by decide⟩ rfl rfl (Nat.le_of_ble_eq_true rfl) (by omega) (by omega) (cw_value (k := 1) hK W1.1.1 (by decide) ⟨rfl, ?_⟩)
          refine k_iload dL_isAnew_54 rfl ?_
          refine k_icmpne 116 dL_isAnew_56 (by decide) (fun h56 => ?_) (fun h56 => ?_)
          · exact absurd (show kw_val (kw_new g N) N 1 = kw_val g m 1 from by show kw_new g N 1 = g 1; rw [kw_new_at g N (by omega), if_neg (by omega), if_neg (by omega), if_neg (by omega), if_neg (by omega), if_neg (by omega)]) h56
          · refine k_aload_n 0 dL_isAnew_59 rfl rfl ?_
            refine k_bipush (8) dL_isAnew_60 (by decide) ?_
            refine k_invSH2 (892) (5352) (As := [_, _]) dL_isAnew_62 mm_L_value wL_L_101 ⟨by decide, by decide⟩ rfl rfl (Nat.le_of_ble_eq_true rfl) (by omega) (by omega) (cw_value (k := 8) hK W1.1.1 (by decide) ⟨rfl, ?_⟩)
            refine k_iload_n 1 dL_isAnew_65 rfl rfl ?_
            refine k_icmpne 116 dL_isAnew_66 (by decide) (fun h66 => ?_) (fun h66 => ?_)
            · exact absurd (show kw_val (kw_new g N) N 8 = nI N from if_pos rfl) h66
            · refine k_aload_n 0 dL_isAnew_69 rfl rfl ?_
              refine k_invV (As := []) dL_isAnew_70 mm_X6_rateBits wL_L_163 ⟨by decide, by decide⟩ hK.1.1 hK.1.2 rfl rfl (Nat.le_of_ble_eq_true rfl) (Nat.zero_le _) (Nat.zero_le _) (cw_rate0 hK W1.1.1 ⟨rfl, ?_⟩)
              refine k_ifne 116 dL_isAnew_73 (by decide) (fun h73 => ?_) (fun h73 => ?_)
              · exact absurd rfl h73
              · refine k_aload_n 0 dL_isAnew_76 rfl rfl ?_
                refine k_iconst (0) dL_isAnew_77 (by decide) ?_
                refine k_invSH2 (890) (5340) (As := [_, _]) dL_isAnew_78 mm_L_status wL_L_106 ⟨by decide, by decide⟩ rfl rfl (Nat.le_of_ble_eq_true rfl) (by omega) (by omega) (cw_status (k := 0) hK W1.1.1 (by decide) ⟨rfl, ?_⟩)
                refine k_ifne 116 dL_isAnew_81 (by decide) (fun h81 => ?_) (fun h81 => ?_)
                · exact absurd (show kw_sta (kw_new g N) 0 = 0 from kw_new0 g N (j := 12) (by omega) (by omega)) h81
                · refine k_aload_n 0 dL_isAnew_84 rfl rfl ?_
                  refine k_iconst (4) dL_isAnew_85 (by decide) ?_
                  refine k_invSH2 (888) (5328) (As := [_, _]) dL_isAnew_86 mm_L_status wL_L_106 ⟨by decide, by decide⟩ rfl rfl (Nat.le_of_ble_eq_true rfl) (by omega) (by omega) (cw_status (k := 4) hK W1.1.1 (by decide) ⟨rfl, ?_⟩)
                  refine k_iconst (-1) dL_isAnew_89 (by decide) ?_
                  refine k_icmpne 116 dL_isAnew_90 (by decide) (fun h90 => ?_) (fun h90 => ?_)
                  · exact absurd (show kw_sta (kw_new g N) 4 = -1 from by show kw_new g N 16 = -1; rw [kw_new_at g N (by omega), if_neg (by omega), if_pos rfl]) h90
                  · refine k_aload_n 0 dL_isAnew_93 rfl rfl ?_
                    refine k_invV (As := []) dL_isAnew_94 mm_X6_unfairness wL_L_157 ⟨by decide, by decide⟩ hK.1.1 hK.1.2 rfl rfl (Nat.le_of_ble_eq_true rfl) (Nat.zero_le _) (Nat.zero_le _) (cw_unfairness hK W1.1.1 ⟨rfl, ?_⟩)
                    refine k_ifne 116 dL_isAnew_97 (by decide) (fun h97 => ?_) (fun h97 => ?_)
                    · exact absurd (kw_unf0 W1.1.1.1.2.2 (fun c hc => kw_new0 g N (by omega) (by omega))) h97
                    · refine k_aload_n 0 dL_isAnew_100 rfl rfl ?_
                      refine k_iconst (0) dL_isAnew_101 (by decide) ?_
                      refine k_invSH2 (886) (5316) (As := [_, _]) dL_isAnew_102 mm_L_octane wL_L_137 ⟨by decide, by decide⟩ rfl rfl (Nat.le_of_ble_eq_true rfl) (by omega) (by omega) (cw_oct100 hK W1.1.1 (fun j hj => kw_new0 g N (by omega) (by omega)) ⟨rfl, ?_⟩)
                      refine k_ldc2d dL_isAnew_105 wK_L_166 ?_
                      refine k_dcmp dL_isAnew_108 ?_
                      rw [fd_self (v := 4636737291354636288) (by unfold vf_n64; decide)]
                      refine k_ifne 116 dL_isAnew_109 (by decide) (fun h109 => ?_) (fun h109 => ?_)
                      · exact absurd rfl h109
                      · refine k_iconst (1) dL_isAnew_112 (by decide) ?_
                        refine k_goto 117 dL_isAnew_113 (by decide) ?_
                        refine k_istore (lv' := [(6, _), (5, _), (4, _), (2, _), (0, _), (1, _)]) dL_isAnew_117 (by decide) rfl ?_
                        refine k_iconst (0) dL_isAnew_119 (by decide) ?_
                        refine k_istore (lv' := [(7, _), (6, _), (5, _), (4, _), (2, _), (0, _), (1, _)]) dL_isAnew_120 (by decide) rfl ?_
                        refine k_re [7, 6, 5, 4, 2, 1, 0] (lv' := [(7, _), (6, _), (5, _), (4, _), (2, _), (1, _), (0, _)]) rfl ?_
                        exact k_room (c' := 14 * N + 700) (n' := 84 * N + 4200) (by omega) (by omega) (lp122 N 0 (Nat.zero_add _) _ _ σ1 (l.take 3) W1)

