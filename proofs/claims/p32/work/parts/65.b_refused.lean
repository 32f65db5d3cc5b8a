-- what is refused changes nothing
theorem fd_self {v : UInt64} (h : vf_n64 v) : Op.cmpValue (FP.dcmp v v) .l = 0 := by
  rw [show FP.dcmp v v = some .eq from fr_self (fd_dec h)]
  rfl
theorem kw_lc {g : Nat → Int32} {F K : Nat} (h : kw_L g F K) : ∃ lc : Nat, g 73 = nI lc ∧ lc ≤ 60 := by
  obtain ⟨lc, kd, fn, h1, -⟩ := h
  exact ⟨lc, h1.2, h1.1⟩

set_option maxRecDepth 100000 in
set_option maxHeartbeats 4000000 in
theorem m_L_refused {X : kn_X} {σ : kn_S} {τ : kn_T} {z : kn_Z} {Q : kn_Q} {B m fi : Nat} {g : Nat → Int32} {l : List kw_G} (hK : kn_isK z) (W : kw_W σ B g m fi l) (hQ : Q (.inl (some (.int 1))) σ τ z) : kn_Ev X ML_refused [.ref 0] σ τ z 1300 7800 Q := by
  obtain ⟨⟨h, hfi, hJ⟩, o, k, len, h4, h5, h6⟩ := W
  obtain ⟨lc, hl, hlc⟩ := kw_lc hJ.1.2.2.2.2
  have hI := kw_IX h h4 h5 h6
  refine kn_entry (by decide +kernel) rfl (Nat.le_of_ble_eq_true rfl) ?_
  show kn_Go X ML_refused 0 [(0, .ref 0)] [] _ _ _ _ _ _
  refine k_aload_n 0 dL_refused_0 rfl rfl ?_
  refine k_invS2 (700) (4200) (As := [_]) dL_refused_1 mm_L_print wL_L_115 ⟨by decide, by decide⟩ rfl rfl (Nat.le_of_ble_eq_true rfl) (by omega) (by omega) (m_L_print hK h hl hlc ⟨rfl, ?_⟩)
  refine k_lstore_n 1 (lv' := [(1, _), (0, _)]) dL_refused_4 rfl (by decide) rfl ?_
  refine k_aload_n 0 dL_refused_5 rfl rfl ?_
  refine k_iconst (0) dL_refused_6 (by decide) ?_
  refine k_invSH2 (698) (4188) (As := [_, _]) dL_refused_7 mm_L_begin wL_L_119 ⟨by decide, by decide⟩ rfl rfl (Nat.le_of_ble_eq_true rfl) (by omega) (by omega) (cx_begin hK hI ⟨rfl, ?_⟩)
  refine k_ldc dL_refused_10 wK_L_17 ?_
  refine k_icmpne 133 dL_refused_12 (by decide) (fun h12 => ?_) (fun h12 => ?_)
  · exact absurd rfl h12
  · refine k_aload_n 0 dL_refused_15 rfl rfl ?_
    refine k_iconst (0) dL_refused_16 (by decide) ?_
    refine k_sipush (200) dL_refused_17 (by decide) ?_
    refine k_invSH2 (696) (4176) (As := [_, _, _]) dL_refused_20 mm_L_set wL_L_121 ⟨by decide, by decide⟩ rfl rfl (Nat.le_of_ble_eq_true rfl) (by omega) (by omega) (cx_set hK hI ⟨rfl, ?_⟩)
    refine k_ldc dL_refused_23 wK_L_17 ?_
    refine k_icmpne 133 dL_refused_25 (by decide) (fun h25 => ?_) (fun h25 => ?_)
    · exact absurd rfl h25
    · refine k_aload_n 0 dL_refused_28 rfl rfl ?_
      refine k_iconst (-1) dL_refused_29 (by decide) ?_
      refine k_invSH2 (694) (4164) (As := [_, _]) dL_refused_30 mm_L_value wL_L_101 ⟨by decide, by decide⟩ rfl rfl (Nat.le_of_ble_eq_true rfl) (by omega) (by omega) (cx_value hK ⟨rfl, ?_⟩)
      refine k_ldc dL_refused_33 wK_L_17 ?_
      refine k_icmpne 133 dL_refused_35 (by decide) (fun h35 => ?_) (fun h35 => ?_)
      · exact absurd rfl h35
      · refine k_aload_n 0 dL_refused_38 rfl rfl ?_
        refine k_iconst (-1) dL_refused_39 (by decide) ?_
        refine k_iconst (0) dL_refused_40 (by decide) ?_
        refine k_iconst (0) dL_refused_41 (by decide) ?_
        refine k_invSH2 (692) (4152) (As := [_, _, _, _]) dL_refused_42 mm_L_teach wL_L_123 ⟨by decide, by decide⟩ rfl rfl (Nat.le_of_ble_eq_true rfl) (by omega) (by omega) (cx_teach hK hI ⟨rfl, ?_⟩)
        refine k_ldc dL_refused_45 wK_L_31 ?_
        refine k_icmpne 133 dL_refused_47 (by decide) (fun h47 => ?_) (fun h47 => ?_)
        · exact absurd rfl h47
        · refine k_aload_n 0 dL_refused_50 rfl rfl ?_
          refine k_ldc dL_refused_51 wK_L_126 ?_
          refine k_invSH2 (690) (4140) (As := [_, _]) dL_refused_53 mm_L_seed wL_L_127 ⟨by decide, by decide⟩ rfl rfl (Nat.le_of_ble_eq_true rfl) (by omega) (by omega) (cx_seed hK hI ⟨rfl, ?_⟩)
          refine k_ldc dL_refused_56 wK_L_17 ?_
          refine k_icmpne 133 dL_refused_58 (by decide) (fun h58 => ?_) (fun h58 => ?_)
          · exact absurd rfl h58
          · refine k_aload_n 0 dL_refused_61 rfl rfl ?_
            refine k_iconst (0) dL_refused_62 (by decide) ?_
            refine k_iconst (0) dL_refused_63 (by decide) ?_
            refine k_iconst (0) dL_refused_64 (by decide) ?_
            refine k_invSH2 (688) (4128) (As := [_, _, _, _]) dL_refused_65 mm_L_fire wL_L_129 ⟨by decide, by decide⟩ rfl rfl (Nat.le_of_ble_eq_true rfl) (by omega) (by omega) (cx_fire hK hI ⟨rfl, ?_⟩)
            refine k_ldc dL_refused_68 wK_L_17 ?_
            refine k_icmpne 133 dL_refused_70 (by decide) (fun h70 => ?_) (fun h70 => ?_)
            · exact absurd rfl h70
            · refine k_aload_n 0 dL_refused_73 rfl rfl ?_
              refine k_sipush (600) dL_refused_74 (by decide) ?_
              refine k_iconst (0) dL_refused_77 (by decide) ?_
              refine k_bipush (70) dL_refused_78 (by decide) ?_
              refine k_iconst (5) dL_refused_80 (by decide) ?_
              refine k_invSH2 (686) (4116) (As := [_, _, _, _, _]) dL_refused_81 mm_L_drive wL_L_131 ⟨by decide, by decide⟩ rfl rfl (Nat.le_of_ble_eq_true rfl) (by omega) (by omega) (cx_drive hK hI ⟨rfl, ?_⟩)
              refine k_ldc dL_refused_84 wK_L_17 ?_
              refine k_icmpne 133 dL_refused_86 (by decide) (fun h86 => ?_) (fun h86 => ?_)
              · exact absurd rfl h86
              · refine k_aload_n 0 dL_refused_89 rfl rfl ?_
                refine k_bipush (8) dL_refused_90 (by decide) ?_
                refine k_iconst (0) dL_refused_92 (by decide) ?_
                refine k_invSH2 (684) (4104) (As := [_, _, _]) dL_refused_93 mm_L_cylinder wL_L_108 ⟨by decide, by decide⟩ rfl rfl (Nat.le_of_ble_eq_true rfl) (by omega) (by omega) (cx_cylinder (c := 8) hK h h.1.2.2.1.2.2 (by decide) ⟨rfl, ?_⟩)
                refine k_ldc dL_refused_96 wK_L_31 ?_
                refine k_icmpne 133 dL_refused_98 (by decide) (fun h98 => ?_) (fun h98 => ?_)
                · exact absurd rfl h98
                · refine k_aload_n 0 dL_refused_101 rfl rfl ?_
                  refine k_bipush (9) dL_refused_102 (by decide) ?_
                  refine k_bipush (9) dL_refused_104 (by decide) ?_
                  refine k_invSH2 (682) (4092) (As := [_, _, _]) dL_refused_106 mm_L_learned wL_L_111 ⟨by decide, by decide⟩ rfl rfl (Nat.le_of_ble_eq_true rfl) (by omega) (by omega) (cx_learned hK ⟨rfl, ?_⟩)
                  refine k_ldc dL_refused_109 wK_L_31 ?_
                  refine k_icmpne 133 dL_refused_111 (by decide) (fun h111 => ?_) (fun h111 => ?_)
                  · exact absurd rfl h111
                  · refine k_aload_n 0 dL_refused_114 rfl rfl ?_
                    refine k_iconst (-1) dL_refused_115 (by decide) ?_
                    refine k_sipush (600) dL_refused_116 (by decide) ?_
                    refine k_iconst (0) dL_refused_119 (by decide) ?_
                    refine k_iconst (1) dL_refused_120 (by decide) ?_
                    refine k_invSH2 (680) (4080) (As := [_, _, _, _, _]) dL_refused_121 mm_L_angle wL_L_134 ⟨by decide, by decide⟩ rfl rfl (Nat.le_of_ble_eq_true rfl) (by omega) (by omega) (cx_angle hK ⟨rfl, ?_⟩)
                    refine k_ldc dL_refused_124 wK_L_31 ?_
                    refine k_icmpne 133 dL_refused_126 (by decide) (fun h126 => ?_) (fun h126 => ?_)
                    · exact absurd rfl h126
                    · refine k_iconst (1) dL_refused_129 (by decide) ?_
                      refine k_goto 134 dL_refused_130 (by decide) ?_
                      refine k_istore_n 3 (lv' := [(3, _), (1, _), (0, _)]) dL_refused_134 rfl (by decide) rfl ?_
                      refine k_iload_n 3 dL_refused_135 rfl rfl ?_
                      refine k_ifeq 270 dL_refused_136 (by decide) (fun h136 => ?_) (fun h136 => ?_)
                      · exact absurd h136 (by decide)
                      · refine k_aload_n 0 dL_refused_139 rfl rfl ?_
                        refine k_iconst (-1) dL_refused_140 (by decide) ?_
                        refine k_invSH2 (678) (4068) (As := [_, _]) dL_refused_141 mm_L_status wL_L_106 ⟨by decide, by decide⟩ rfl rfl (Nat.le_of_ble_eq_true rfl) (by omega) (by omega) (cx_status hK ⟨rfl, ?_⟩)
                        refine k_ldc dL_refused_144 wK_L_17 ?_
                        refine k_icmpne 270 dL_refused_146 (by decide) (fun h146 => ?_) (fun h146 => ?_)
                        · exact absurd rfl h146
                        · refine k_aload_n 0 dL_refused_149 rfl rfl ?_
                          refine k_bipush (9) dL_refused_150 (by decide) ?_
                          refine k_invSH2 (676) (4056) (As := [_, _]) dL_refused_152 mm_L_octane wL_L_137 ⟨by decide, by decide⟩ rfl rfl (Nat.le_of_ble_eq_true rfl) (by omega) (by omega) (cx_octane hK ⟨rfl, ?_⟩)
                          refine k_ldc2d dL_refused_155 wK_L_59 ?_
                          refine k_dcmp dL_refused_158 ?_
                          refine k_ifne 270 dL_refused_159 (by decide) (fun h159 => ?_) (fun h159 => ?_)
                          · exact absurd (fd_self (by unfold vf_n64; decide)) h159
                          · refine k_aload_n 0 dL_refused_162 rfl rfl ?_
                            refine k_bipush (9) dL_refused_163 (by decide) ?_
                            refine k_iconst (0) dL_refused_165 (by decide) ?_
                            refine k_iconst (1) dL_refused_166 (by decide) ?_
                            refine k_invSH2 (674) (4044) (As := [_, _, _, _]) dL_refused_167 mm_L_extreme wL_L_140 ⟨by decide, by decide⟩ rfl rfl (Nat.le_of_ble_eq_true rfl) (by omega) (by omega) (cx_extreme hK ⟨rfl, ?_⟩)
                            refine k_ldc dL_refused_170 wK_L_31 ?_
                            refine k_icmpne 270 dL_refused_172 (by decide) (fun h172 => ?_) (fun h172 => ?_)
                            · exact absurd rfl h172
                            · refine k_aload_n 0 dL_refused_175 rfl rfl ?_
                              refine k_bipush (60) dL_refused_176 (by decide) ?_
                              refine k_iconst (0) dL_refused_178 (by decide) ?_
                              refine k_invSH2 (672) (4032) (As := [_, _, _]) dL_refused_179 mm_L_event wL_L_113 ⟨by decide, by decide⟩ rfl rfl (Nat.le_of_ble_eq_true rfl) (by omega) (by omega) (cx_event hK h ⟨rfl, ?_⟩)
                              refine k_ldc dL_refused_182 wK_L_31 ?_
                              refine k_icmpne 270 dL_refused_184 (by decide) (fun h184 => ?_) (fun h184 => ?_)
                              · exact absurd rfl h184
                              · refine k_aload_n 0 dL_refused_187 rfl rfl ?_
                                refine k_iconst (-1) dL_refused_188 (by decide) ?_
                                refine k_invSH2 (670) (4020) (As := [_, _]) dL_refused_189 mm_L_eventsOf wL_L_143 ⟨by decide, by decide⟩ rfl rfl (Nat.le_of_ble_eq_true rfl) (by omega) (by omega) (cx_eventsOf hK h ⟨rfl, ?_⟩)
                                refine k_ldc dL_refused_192 wK_L_17 ?_
                                refine k_icmpne 270 dL_refused_194 (by decide) (fun h194 => ?_) (fun h194 => ?_)
                                · exact absurd rfl h194
                                · refine k_aload_n 0 dL_refused_197 rfl rfl ?_
                                  refine k_bipush (8) dL_refused_198 (by decide) ?_
                                  refine k_sipush (600) dL_refused_200 (by decide) ?_
                                  refine k_iconst (0) dL_refused_203 (by decide) ?_
                                  refine k_bipush (90) dL_refused_204 (by decide) ?_
                                  refine k_invSH2 (668) (4008) (As := [_, _, _, _, _]) dL_refused_206 mm_L_limit wL_L_145 ⟨by decide, by decide⟩ rfl rfl (Nat.le_of_ble_eq_true rfl) (by omega) (by omega) (cx_limit hK h ⟨rfl, ?_⟩)
                                  refine k_ldc dL_refused_209 wK_L_31 ?_
                                  refine k_icmpne 270 dL_refused_211 (by decide) (fun h211 => ?_) (fun h211 => ?_)
                                  · exact absurd rfl h211
                                  · refine k_aload_n 0 dL_refused_214 rfl rfl ?_
                                    refine k_sipush (600) dL_refused_215 (by decide) ?_
                                    refine k_iconst (-1) dL_refused_218 (by decide) ?_
                                    refine k_bipush (90) dL_refused_219 (by decide) ?_
                                    refine k_invSH2 (666) (3996) (As := [_, _, _, _]) dL_refused_221 mm_L_quietAfter wL_L_147 ⟨by decide, by decide⟩ rfl rfl (Nat.le_of_ble_eq_true rfl) (by omega) (by omega) (cx_quietAfter hK hI ⟨rfl, ?_⟩)
                                    refine k_ldc dL_refused_224 wK_L_17 ?_
                                    refine k_icmpne 270 dL_refused_226 (by decide) (fun h226 => ?_) (fun h226 => ?_)
                                    · exact absurd rfl h226
                                    · refine k_aload_n 0 dL_refused_229 rfl rfl ?_
                                      refine k_sipush (600) dL_refused_230 (by decide) ?_
                                      refine k_iconst (0) dL_refused_233 (by decide) ?_
                                      refine k_sipush (200) dL_refused_234 (by decide) ?_
                                      refine k_invSH2 (664) (3984) (As := [_, _, _, _]) dL_refused_237 mm_L_lowestOctane wL_L_149 ⟨by decide, by decide⟩ rfl rfl (Nat.le_of_ble_eq_true rfl) (by omega) (by omega) (cx_lowestOctane hK hI ⟨rfl, ?_⟩)
                                      refine k_ldc dL_refused_240 wK_L_17 ?_
                                      refine k_icmpne 270 dL_refused_242 (by decide) (fun h242 => ?_) (fun h242 => ?_)
                                      · exact absurd rfl h242
                                      · refine k_aload_n 0 dL_refused_245 rfl rfl ?_
                                        refine k_sipush (200) dL_refused_246 (by decide) ?_
                                        refine k_invSH2 (662) (3972) (As := [_, _]) dL_refused_249 mm_L_append wL_L_151 ⟨by decide, by decide⟩ rfl rfl (Nat.le_of_ble_eq_true rfl) (by omega) (by omega) (cx_append hK ⟨rfl, ?_⟩)
                                        refine k_ldc dL_refused_252 wK_L_17 ?_
                                        refine k_icmpne 270 dL_refused_254 (by decide) (fun h254 => ?_) (fun h254 => ?_)
                                        · exact absurd rfl h254
                                        · refine k_aload_n 0 dL_refused_257 rfl rfl ?_
                                          refine k_invS2 (62) (372) (As := [_]) dL_refused_258 mm_L_print wL_L_115 ⟨by decide, by decide⟩ rfl rfl (Nat.le_of_ble_eq_true rfl) (by omega) (by omega) (m_L_print hK h hl hlc ⟨rfl, ?_⟩)
                                          refine k_lload_n 1 dL_refused_261 rfl rfl ?_
                                          refine k_lcmp dL_refused_262 ?_
                                          rw [kr_lcmp]
                                          refine k_ifne 270 dL_refused_263 (by decide) (fun h263 => ?_) (fun h263 => ?_)
                                          · exact absurd rfl h263
                                          · refine k_iconst (1) dL_refused_266 (by decide) ?_
                                            refine k_goto 271 dL_refused_267 (by decide) ?_
                                            refine k_iret dL_refused_271 rfl (rfl) ?_
                                            exact hQ

