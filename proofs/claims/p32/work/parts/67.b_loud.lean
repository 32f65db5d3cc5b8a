-- a louder firing
theorem kw_mono {x : Int32} {lw hg : Nat} (h : lw ≤ hg) (hh : hg < 2 ^ 31) : ¬ (if nI hg ≤ x then (0 : Int32) else 1) < (if nI lw ≤ x then (0 : Int32) else 1) := by
  by_cases q : nI hg ≤ x
  · have q2 : nI lw ≤ x := by
      have h9 := nI_le h hh
      rw [Int32.le_iff_toInt_le] at q h9 ⊢
      omega
    rw [if_pos q, if_pos q2]; decide
  · rw [if_neg q]
    split <;> decide
theorem kw_unfV {g : Nat → Int32} {m fi S : Nat} {v : Int32} (hm : m ≤ 8) (hI : kr_I g m fi fi) (hf : ∀ c, c < 8 → kr_le (g (17 + c)) 200) (hs : kw_sp g m S) (hv : v = nI S) (hS : S ≤ 200) : ¬ v < kw_unf g m := by
  have h1 := kw_unfS hI hf hs
  rw [Int32.lt_iff_toInt_lt, hv, nI_toInt (by omega)]
  omega
set_option maxRecDepth 100000 in
set_option maxHeartbeats 4000000 in
theorem m_L_isLoud {X : kn_X} {σ : kn_S} {τ : kn_T} {z : kn_Z} {Q : kn_Q} {B m fi sp lo a b : Nat} {g : Nat → Int32} {l : List kw_G} (hK : kn_isK z) (W : kw_W σ B g m fi l) (hB : B + 10000 < 1000000000) (h1 : 500 ≤ sp) (h2 : sp ≤ 7000) (h3 : lo ≤ 100) (ha : a ≤ 20000) (hb : b ≤ 20000) (hQ : ∀ (σ9 : kn_S) (l9 : List kw_G), kw_W σ9 (B + 2000) g m fi l9 → Q (.inl (some (.int 1))) σ9 τ z) : kn_Ev X ML_isLoud [.ref 0, .int (nI sp), .int (nI lo), .int (nI a), .int (nI b)] σ τ z 2000 12000 Q := by
  have W0 := W
  obtain ⟨⟨h, hfi, hJ⟩, -⟩ := W
  have hm := h.1.2.2.1.2
  obtain ⟨lc, hl, hlc⟩ := kw_lc hJ.1.2.2.2.2
  have hop := kw_op h1 h2 h3
  obtain ⟨cl, hce, hcl⟩ := kr_cell hop
  obtain ⟨S4, e4, -, hS4⟩ := kw_set hJ.1 (k := 4) (by decide)
  have hS4 : S4 ≤ 200 := by
    have hm4 : (kn_most 4).toInt = 200 := by decide
    omega
  refine kn_entry (by decide +kernel) rfl (Nat.le_of_ble_eq_true rfl) ?_
  show kn_Go X ML_isLoud 0 [(0, .ref 0), (1, .int (nI sp)), (2, .int (nI lo)), (3, .int (nI a)), (4, .int (nI b))] [] _ _ _ _ _ _
  have cut172 : ∀ (a13 a11 a10 a9 a8 a7 a4 a3 a2 a1 : Int32) (σ8 : kn_S) (l8 : List kw_G) (g8 : Nat → Int32) (f8 : Nat), kw_W σ8 (B + 2000) g8 m f8 ((g, m, fi) :: l8) → kn_Go X ML_isLoud 172 [(13, .int a13), (12, .int 1), (11, .int a11), (10, .int a10), (9, .int a9), (8, .int a8), (7, .int a7), (5, .long (kw_pr g m fi lc)), (4, .int a4), (3, .int a3), (2, .int a2), (1, .int a1), (0, .ref 0)] [] σ8 τ z (700) (4200) Q := by
    intro a13 a11 a10 a9 a8 a7 a4 a3 a2 a1 σ8 l8 g8 f8 W8
    refine k_iconst (1) dL_isLoud_172 (by decide) ?_
    refine k_goto 177 dL_isLoud_173 (by decide) ?_
    refine k_istore (lv' := [(12, _), (13, _), (11, _), (10, _), (9, _), (8, _), (7, _), (5, _), (4, _), (3, _), (2, _), (1, _), (0, _)]) dL_isLoud_177 (by decide) rfl ?_
    refine k_iload dL_isLoud_179 rfl ?_
    refine k_ifeq 205 dL_isLoud_181 (by decide) (fun h181 => ?_) (fun h181 => ?_)
    · exact absurd h181 (by decide)
    · refine k_aload_n 0 dL_isLoud_184 rfl rfl ?_
      refine k_invSH2 (698) (4188) (As := [_]) dL_isLoud_185 mm_L_undo wL_L_160 ⟨by decide, by decide⟩ rfl rfl (Nat.le_of_ble_eq_true rfl) (by omega) (by omega) (cw_undo (q := (g, m, fi)) hK W8 (fun σ9 k9 hk9 W9 => ⟨rfl, ?_⟩))
      refine k_iflt 205 dL_isLoud_188 (by decide) (fun h188 => ?_) (fun h188 => ?_)
      · exact absurd h188 (nI_pos (by omega))
      · refine k_aload_n 0 dL_isLoud_191 rfl rfl ?_
        refine k_invS2 (98) (588) (As := [_]) dL_isLoud_192 mm_L_print wL_L_115 ⟨by decide, by decide⟩ rfl rfl (Nat.le_of_ble_eq_true rfl) (by omega) (by omega) (m_L_print (m := m) (fi := fi) (g := g) hK W9.1.1 hl hlc ⟨rfl, ?_⟩)
        refine k_lload dL_isLoud_195 rfl ?_
        refine k_lcmp dL_isLoud_197 ?_
        rw [kr_lcmp]
        refine k_ifne 205 dL_isLoud_198 (by decide) (fun h198 => ?_) (fun h198 => ?_)
        · exact absurd rfl h198
        · refine k_iconst (1) dL_isLoud_201 (by decide) ?_
          refine k_goto 206 dL_isLoud_202 (by decide) ?_
          refine k_iret dL_isLoud_206 rfl (rfl) ?_
          exact hQ _ _ W9
  have cut34 : ∀ (lw hg : Nat), lw ≤ hg → hg ≤ 20000 → kn_Go X ML_isLoud 34 [(8, .int (nI hg)), (7, .int (nI lw)), (5, .long (kw_pr g m fi lc)), (4, .int (nI b)), (3, .int (nI a)), (2, .int (nI lo)), (1, .int (nI sp)), (0, .ref 0)] [] σ τ z 1400 8400 Q := by
    intro lw hg hlh hhg
    refine k_aload_n 0 dL_isLoud_34 rfl rfl ?_
    refine k_invV (As := []) dL_isLoud_35 mm_X6_next wL_L_98 ⟨by decide, by decide⟩ hK.1.1 hK.1.2 rfl rfl (Nat.le_of_ble_eq_true rfl) (Nat.zero_le _) (Nat.zero_le _) (cw_next hK h ⟨rfl, ?_⟩)
    refine k_istore (lv' := [(9, _), (8, _), (7, _), (5, _), (4, _), (3, _), (2, _), (1, _), (0, _)]) dL_isLoud_38 (by decide) rfl ?_
    refine k_aload_n 0 dL_isLoud_40 rfl rfl ?_
    refine k_iload dL_isLoud_41 rfl ?_
    refine k_iconst (3) dL_isLoud_43 (by decide) ?_
    refine k_invSH2 (1398) (8388) (As := [_, _, _]) dL_isLoud_44 mm_L_cylinder wL_L_108 ⟨by decide, by decide⟩ rfl rfl (Nat.le_of_ble_eq_true rfl) (by omega) (by omega) (cw_cylinder (c := fi % m) (w := 3) hK h (Nat.mod_lt _ (by omega)) (by decide) ⟨rfl, ?_⟩)
    refine k_istore (lv' := [(10, _), (9, _), (8, _), (7, _), (5, _), (4, _), (3, _), (2, _), (1, _), (0, _)]) dL_isLoud_47 (by decide) rfl ?_
    refine k_aload_n 0 dL_isLoud_49 rfl rfl ?_
    refine k_iload_n 1 dL_isLoud_50 rfl rfl ?_
    refine k_iload_n 2 dL_isLoud_51 rfl rfl ?_
    refine k_iload dL_isLoud_52 rfl ?_
    refine k_invSH2 (1396) (8376) (As := [_, _, _, _]) dL_isLoud_54 mm_L_fire wL_L_129 ⟨by decide, by decide⟩ rfl rfl (Nat.le_of_ble_eq_true rfl) (by omega) (by omega) (cw_fire hK W0 hop hce hcl (show lw ≤ 20000 by omega) (by omega) (fun σ1 W1 => ⟨rfl, ?_⟩))
    refine k_istore (lv' := [(11, _), (10, _), (9, _), (8, _), (7, _), (5, _), (4, _), (3, _), (2, _), (1, _), (0, _)]) dL_isLoud_57 (by decide) rfl ?_
    refine k_aload_n 0 dL_isLoud_59 rfl rfl ?_
    refine k_invSH2 (1394) (8364) (As := [_]) dL_isLoud_60 mm_L_undo wL_L_160 ⟨by decide, by decide⟩ rfl rfl (Nat.le_of_ble_eq_true rfl) (by omega) (by omega) (cw_undo (q := (g, m, fi)) (l := l.take 3) hK W1 (fun σ2 k2 hk2 W2 => ⟨rfl, ?_⟩))
    refine k_iflt 80 dL_isLoud_63 (by decide) (fun h63 => ?_) (fun h63 => ?_)
    · exact absurd h63 (nI_pos (by omega))
    · refine k_aload_n 0 dL_isLoud_66 rfl rfl ?_
      refine k_invS2 (794) (4764) (As := [_]) dL_isLoud_67 mm_L_print wL_L_115 ⟨by decide, by decide⟩ rfl rfl (Nat.le_of_ble_eq_true rfl) (by omega) (by omega) (m_L_print (m := m) (fi := fi) (g := g) hK W2.1.1 hl hlc ⟨rfl, ?_⟩)
      refine k_lload dL_isLoud_70 rfl ?_
      refine k_lcmp dL_isLoud_72 ?_
      rw [kr_lcmp]
      refine k_ifne 80 dL_isLoud_73 (by decide) (fun h73 => ?_) (fun h73 => ?_)
      · exact absurd rfl h73
      · refine k_iconst (1) dL_isLoud_76 (by decide) ?_
        refine k_goto 81 dL_isLoud_77 (by decide) ?_
        refine k_istore (lv' := [(12, _), (11, _), (10, _), (9, _), (8, _), (7, _), (5, _), (4, _), (3, _), (2, _), (1, _), (0, _)]) dL_isLoud_81 (by decide) rfl ?_
        refine k_iload dL_isLoud_83 rfl ?_
        refine k_ifeq 99 dL_isLoud_85 (by decide) (fun h85 => ?_) (fun h85 => ?_)
        · exact absurd h85 (by decide)
        · refine k_aload_n 0 dL_isLoud_88 rfl rfl ?_
          refine k_iload_n 1 dL_isLoud_89 rfl rfl ?_
          refine k_iload_n 2 dL_isLoud_90 rfl rfl ?_
          refine k_iload dL_isLoud_91 rfl ?_
          refine k_invSH2 (792) (4752) (As := [_, _, _, _]) dL_isLoud_93 mm_L_fire wL_L_129 ⟨by decide, by decide⟩ rfl rfl (Nat.le_of_ble_eq_true rfl) (by omega) (by omega) (cw_fire (g := g) (m := m) (fi := fi) hK W2 hop hce hcl hhg (by omega) (fun σ3 W3 => ⟨rfl, ?_⟩))
          refine k_goto 100 dL_isLoud_96 (by decide) ?_
          refine k_istore (lv' := [(13, _), (12, _), (11, _), (10, _), (9, _), (8, _), (7, _), (5, _), (4, _), (3, _), (2, _), (1, _), (0, _)]) dL_isLoud_100 (by decide) rfl ?_
          refine k_iload dL_isLoud_102 rfl ?_
          refine k_ifeq 176 dL_isLoud_104 (by decide) (fun h104 => ?_) (fun h104 => ?_)
          · exact absurd h104 (by decide)
          · refine k_iload dL_isLoud_107 rfl ?_
            refine k_iconst (2) dL_isLoud_109 (by decide) ?_
            refine k_icmpeq 172 dL_isLoud_110 (by decide) (fun h110 => ?_) (fun h110 => ?_)
            · exact k_room (by omega) (by omega) (cut172 _ _ _ _ _ _ _ _ _ _ _ _ _ _ W3)
            · refine k_iload dL_isLoud_113 rfl ?_
              refine k_iconst (2) dL_isLoud_115 (by decide) ?_
              refine k_icmpeq 172 dL_isLoud_116 (by decide) (fun h116 => ?_) (fun h116 => ?_)
              · exact k_room (by omega) (by omega) (cut172 _ _ _ _ _ _ _ _ _ _ _ _ _ _ W3)
              · refine k_iload dL_isLoud_119 rfl ?_
                refine k_iload dL_isLoud_121 rfl ?_
                refine k_icmpgt 176 dL_isLoud_123 (by decide) (fun h123 => ?_) (fun h123 => ?_)
                · exact absurd (by have q9 := h123; rw [((kw_ta (cl := cl) (e := nI lw) h.1.2.2 (by omega)).resolve_left h110), ((kw_ta (cl := cl) (e := nI hg) h.1.2.2 (by omega)).resolve_left h116)] at q9; exact q9) (kw_mono (x := kw_cyl g (fi % m) 3) hlh (by omega))
                · refine k_iload dL_isLoud_126 rfl ?_
                  refine k_iload dL_isLoud_128 rfl ?_
                  refine k_iload dL_isLoud_130 rfl ?_
                  refine k_icmple 139 dL_isLoud_132 (by decide) (fun h132 => ?_) (fun h132 => ?_)
                  · refine k_iconst (0) dL_isLoud_139 (by decide) ?_
                    refine k_icmpne 176 dL_isLoud_140 (by decide) (fun h140 => ?_) (fun h140 => ?_)
                    · first | exact absurd (((kw_ta (cl := cl) (e := nI hg) h.1.2.2 (by omega)).resolve_left h116).trans (if_pos h132)) h140 | exact absurd (((kw_ta (cl := cl) (e := nI hg) h.1.2.2 (by omega)).resolve_left h116).trans (if_neg h132)) h140
                    · refine k_iload dL_isLoud_143 rfl ?_
                      refine k_iload dL_isLoud_145 rfl ?_
                      refine k_iload dL_isLoud_147 rfl ?_
                      refine k_icmple 156 dL_isLoud_149 (by decide) (fun h149 => ?_) (fun h149 => ?_)
                      · refine k_iconst (0) dL_isLoud_156 (by decide) ?_
                        refine k_icmpne 176 dL_isLoud_157 (by decide) (fun h157 => ?_) (fun h157 => ?_)
                        · first | exact absurd (((kw_ta (cl := cl) (e := nI lw) h.1.2.2 (by omega)).resolve_left h110).trans (if_pos h149)) h157 | exact absurd (((kw_ta (cl := cl) (e := nI lw) h.1.2.2 (by omega)).resolve_left h110).trans (if_neg h149)) h157
                        · refine k_aload_n 0 dL_isLoud_160 rfl rfl ?_
                          refine k_invV (As := []) dL_isLoud_161 mm_X6_unfairness wL_L_157 ⟨by decide, by decide⟩ hK.1.1 hK.1.2 rfl rfl (Nat.le_of_ble_eq_true rfl) (Nat.zero_le _) (Nat.zero_le _) (cw_unfairness (m := m) hK W3.1.1 ⟨rfl, ?_⟩)
                          refine k_aload_n 0 dL_isLoud_164 rfl rfl ?_
                          refine k_iconst (4) dL_isLoud_165 (by decide) ?_
                          refine k_invSH2 (790) (4740) (As := [_, _]) dL_isLoud_166 mm_L_value wL_L_101 ⟨by decide, by decide⟩ rfl rfl (Nat.le_of_ble_eq_true rfl) (by omega) (by omega) (cw_value (k := 4) (m := m) hK W3.1.1 (by decide) ⟨rfl, ?_⟩)
                          refine k_icmpgt 176 dL_isLoud_169 (by decide) (fun h169 => ?_) (fun h169 => ?_)
                          · exact absurd h169 (kw_unfV hm.2 W3.1.1.1.2.2 W3.1.2.2.1.2.1 (kw_heard h.1.2.2 hJ (by omega) hcl h116 e4 hS4) (show kw_val (kw_T g m cl (nI hg)) m 4 = nI S4 from (kw_T_o h.1.2.2 (by decide)).trans e4) hS4)
                          · exact k_room (by omega) (by omega) (cut172 _ _ _ _ _ _ _ _ _ _ _ _ _ _ W3)
                      · refine k_iconst (1) dL_isLoud_152 (by decide) ?_
                        refine k_goto 157 dL_isLoud_153 (by decide) ?_
                        refine k_icmpne 176 dL_isLoud_157 (by decide) (fun h157 => ?_) (fun h157 => ?_)
                        · first | exact absurd (((kw_ta (cl := cl) (e := nI lw) h.1.2.2 (by omega)).resolve_left h110).trans (if_pos h149)) h157 | exact absurd (((kw_ta (cl := cl) (e := nI lw) h.1.2.2 (by omega)).resolve_left h110).trans (if_neg h149)) h157
                        · refine k_aload_n 0 dL_isLoud_160 rfl rfl ?_
                          refine k_invV (As := []) dL_isLoud_161 mm_X6_unfairness wL_L_157 ⟨by decide, by decide⟩ hK.1.1 hK.1.2 rfl rfl (Nat.le_of_ble_eq_true rfl) (Nat.zero_le _) (Nat.zero_le _) (cw_unfairness (m := m) hK W3.1.1 ⟨rfl, ?_⟩)
                          refine k_aload_n 0 dL_isLoud_164 rfl rfl ?_
                          refine k_iconst (4) dL_isLoud_165 (by decide) ?_
                          refine k_invSH2 (790) (4740) (As := [_, _]) dL_isLoud_166 mm_L_value wL_L_101 ⟨by decide, by decide⟩ rfl rfl (Nat.le_of_ble_eq_true rfl) (by omega) (by omega) (cw_value (k := 4) (m := m) hK W3.1.1 (by decide) ⟨rfl, ?_⟩)
                          refine k_icmpgt 176 dL_isLoud_169 (by decide) (fun h169 => ?_) (fun h169 => ?_)
                          · exact absurd h169 (kw_unfV hm.2 W3.1.1.1.2.2 W3.1.2.2.1.2.1 (kw_heard h.1.2.2 hJ (by omega) hcl h116 e4 hS4) (show kw_val (kw_T g m cl (nI hg)) m 4 = nI S4 from (kw_T_o h.1.2.2 (by decide)).trans e4) hS4)
                          · exact k_room (by omega) (by omega) (cut172 _ _ _ _ _ _ _ _ _ _ _ _ _ _ W3)
                  · refine k_iconst (1) dL_isLoud_135 (by decide) ?_
                    refine k_goto 140 dL_isLoud_136 (by decide) ?_
                    refine k_icmpne 176 dL_isLoud_140 (by decide) (fun h140 => ?_) (fun h140 => ?_)
                    · first | exact absurd (((kw_ta (cl := cl) (e := nI hg) h.1.2.2 (by omega)).resolve_left h116).trans (if_pos h132)) h140 | exact absurd (((kw_ta (cl := cl) (e := nI hg) h.1.2.2 (by omega)).resolve_left h116).trans (if_neg h132)) h140
                    · refine k_iload dL_isLoud_143 rfl ?_
                      refine k_iload dL_isLoud_145 rfl ?_
                      refine k_iload dL_isLoud_147 rfl ?_
                      refine k_icmple 156 dL_isLoud_149 (by decide) (fun h149 => ?_) (fun h149 => ?_)
                      · refine k_iconst (0) dL_isLoud_156 (by decide) ?_
                        refine k_icmpne 176 dL_isLoud_157 (by decide) (fun h157 => ?_) (fun h157 => ?_)
                        · first | exact absurd (((kw_ta (cl := cl) (e := nI lw) h.1.2.2 (by omega)).resolve_left h110).trans (if_pos h149)) h157 | exact absurd (((kw_ta (cl := cl) (e := nI lw) h.1.2.2 (by omega)).resolve_left h110).trans (if_neg h149)) h157
                        · refine k_aload_n 0 dL_isLoud_160 rfl rfl ?_
                          refine k_invV (As := []) dL_isLoud_161 mm_X6_unfairness wL_L_157 ⟨by decide, by decide⟩ hK.1.1 hK.1.2 rfl rfl (Nat.le_of_ble_eq_true rfl) (Nat.zero_le _) (Nat.zero_le _) (cw_unfairness (m := m) hK W3.1.1 ⟨rfl, ?_⟩)
                          refine k_aload_n 0 dL_isLoud_164 rfl rfl ?_
                          refine k_iconst (4) dL_isLoud_165 (by decide) ?_
                          refine k_invSH2 (790) (4740) (As := [_, _]) dL_isLoud_166 mm_L_value wL_L_101 ⟨by decide, by decide⟩ rfl rfl (Nat.le_of_ble_eq_true rfl) (by omega) (by omega) (cw_value (k := 4) (m := m) hK W3.1.1 (by decide) ⟨rfl, ?_⟩)
                          refine k_icmpgt 176 dL_isLoud_169 (by decide) (fun h169 => ?_) (fun h169 => ?_)
                          · exact absurd h169 (kw_unfV hm.2 W3.1.1.1.2.2 W3.1.2.2.1.2.1 (kw_heard h.1.2.2 hJ (by omega) hcl h116 e4 hS4) (show kw_val (kw_T g m cl (nI hg)) m 4 = nI S4 from (kw_T_o h.1.2.2 (by decide)).trans e4) hS4)
                          · exact k_room (by omega) (by omega) (cut172 _ _ _ _ _ _ _ _ _ _ _ _ _ _ W3)
                      · refine k_iconst (1) dL_isLoud_152 (by decide) ?_
                        refine k_goto 157 dL_isLoud_153 (by decide) ?_
                        refine k_icmpne 176 dL_isLoud_157 (by decide) (fun h157 => ?_) (fun h157 => ?_)
                        · first | exact absurd (((kw_ta (cl := cl) (e := nI lw) h.1.2.2 (by omega)).resolve_left h110).trans (if_pos h149)) h157 | exact absurd (((kw_ta (cl := cl) (e := nI lw) h.1.2.2 (by omega)).resolve_left h110).trans (if_neg h149)) h157
                        · refine k_aload_n 0 dL_isLoud_160 rfl rfl ?_
                          refine k_invV (As := []) dL_isLoud_161 mm_X6_unfairness wL_L_157 ⟨by decide, by decide⟩ hK.1.1 hK.1.2 rfl rfl (Nat.le_of_ble_eq_true rfl) (Nat.zero_le _) (Nat.zero_le _) (cw_unfairness (m := m) hK W3.1.1 ⟨rfl, ?_⟩)
                          refine k_aload_n 0 dL_isLoud_164 rfl rfl ?_
                          refine k_iconst (4) dL_isLoud_165 (by decide) ?_
                          refine k_invSH2 (790) (4740) (As := [_, _]) dL_isLoud_166 mm_L_value wL_L_101 ⟨by decide, by decide⟩ rfl rfl (Nat.le_of_ble_eq_true rfl) (by omega) (by omega) (cw_value (k := 4) (m := m) hK W3.1.1 (by decide) ⟨rfl, ?_⟩)
                          refine k_icmpgt 176 dL_isLoud_169 (by decide) (fun h169 => ?_) (fun h169 => ?_)
                          · exact absurd h169 (kw_unfV hm.2 W3.1.1.1.2.2 W3.1.2.2.1.2.1 (kw_heard h.1.2.2 hJ (by omega) hcl h116 e4 hS4) (show kw_val (kw_T g m cl (nI hg)) m 4 = nI S4 from (kw_T_o h.1.2.2 (by decide)).trans e4) hS4)
                          · exact k_room (by omega) (by omega) (cut172 _ _ _ _ _ _ _ _ _ _ _ _ _ _ W3)
  refine k_aload_n 0 dL_isLoud_0 rfl rfl ?_
  refine k_invS2 (1400) (8400) (As := [_]) dL_isLoud_1 mm_L_print wL_L_115 ⟨by decide, by decide⟩ rfl rfl (Nat.le_of_ble_eq_true rfl) (by omega) (by omega) (m_L_print hK h hl hlc ⟨rfl, ?_⟩)
  refine k_lstore (lv' := [(5, _), (0, _), (1, _), (2, _), (3, _), (4, _)]) dL_isLoud_4 (by decide) rfl ?_
  refine k_iload_n 3 dL_isLoud_6 rfl rfl ?_
  refine k_iload dL_isLoud_7 rfl ?_
  refine k_icmpge 16 dL_isLoud_9 (by decide) (fun h9 => ?_) (fun h9 => ?_)
  · refine k_iload dL_isLoud_16 rfl ?_
    refine k_istore (lv' := [(7, _), (5, _), (0, _), (1, _), (2, _), (3, _), (4, _)]) dL_isLoud_18 (by decide) rfl ?_
    refine k_iload_n 3 dL_isLoud_20 rfl rfl ?_
    refine k_iload dL_isLoud_21 rfl ?_
    refine k_icmpge 31 dL_isLoud_23 (by decide) (fun h23 => ?_) (fun h23 => ?_)
    · refine k_iload_n 3 dL_isLoud_31 rfl rfl ?_
      refine k_istore (lv' := [(8, _), (7, _), (5, _), (0, _), (1, _), (2, _), (3, _), (4, _)]) dL_isLoud_32 (by decide) rfl ?_
      refine k_re [8, 7, 5, 4, 3, 2, 1, 0] (lv' := [(8, _), (7, _), (5, _), (4, _), (3, _), (2, _), (1, _), (0, _)]) rfl ?_
      refine k_room (c' := 1400) (n' := 8400) (by omega) (by omega) (cut34 _ _ ?_ (by omega))
      first | exact Nat.le_refl _ | exact kw_lo31 (by omega) (by omega) h9 | exact Nat.le_of_lt (Nat.lt_of_not_le (fun w => h9 (nI_le w (by omega))))
    · refine k_iload dL_isLoud_26 rfl ?_
      refine k_goto 32 dL_isLoud_28 (by decide) ?_
      refine k_istore (lv' := [(8, _), (7, _), (5, _), (0, _), (1, _), (2, _), (3, _), (4, _)]) dL_isLoud_32 (by decide) rfl ?_
      refine k_re [8, 7, 5, 4, 3, 2, 1, 0] (lv' := [(8, _), (7, _), (5, _), (4, _), (3, _), (2, _), (1, _), (0, _)]) rfl ?_
      refine k_room (c' := 1400) (n' := 8400) (by omega) (by omega) (cut34 _ _ ?_ (by omega))
      first | exact Nat.le_refl _ | exact kw_lo31 (by omega) (by omega) h9 | exact Nat.le_of_lt (Nat.lt_of_not_le (fun w => h9 (nI_le w (by omega))))
  · refine k_iload_n 3 dL_isLoud_12 rfl rfl ?_
    refine k_goto 18 dL_isLoud_13 (by decide) ?_
    refine k_istore (lv' := [(7, _), (5, _), (0, _), (1, _), (2, _), (3, _), (4, _)]) dL_isLoud_18 (by decide) rfl ?_
    refine k_iload_n 3 dL_isLoud_20 rfl rfl ?_
    refine k_iload dL_isLoud_21 rfl ?_
    refine k_icmpge 31 dL_isLoud_23 (by decide) (fun h23 => ?_) (fun h23 => ?_)
    · refine k_iload_n 3 dL_isLoud_31 rfl rfl ?_
      refine k_istore (lv' := [(8, _), (7, _), (5, _), (0, _), (1, _), (2, _), (3, _), (4, _)]) dL_isLoud_32 (by decide) rfl ?_
      refine k_re [8, 7, 5, 4, 3, 2, 1, 0] (lv' := [(8, _), (7, _), (5, _), (4, _), (3, _), (2, _), (1, _), (0, _)]) rfl ?_
      refine k_room (c' := 1400) (n' := 8400) (by omega) (by omega) (cut34 _ _ ?_ (by omega))
      first | exact Nat.le_refl _ | exact kw_lo31 (by omega) (by omega) h9 | exact Nat.le_of_lt (Nat.lt_of_not_le (fun w => h9 (nI_le w (by omega))))
    · refine k_iload dL_isLoud_26 rfl ?_
      refine k_goto 32 dL_isLoud_28 (by decide) ?_
      refine k_istore (lv' := [(8, _), (7, _), (5, _), (0, _), (1, _), (2, _), (3, _), (4, _)]) dL_isLoud_32 (by decide) rfl ?_
      refine k_re [8, 7, 5, 4, 3, 2, 1, 0] (lv' := [(8, _), (7, _), (5, _), (4, _), (3, _), (2, _), (1, _), (0, _)]) rfl ?_
      refine k_room (c' := 1400) (n' := 8400) (by omega) (by omega) (cut34 _ _ ?_ (by omega))
      first | exact Nat.le_refl _ | exact kw_lo31 (by omega) (by omega) h9 | exact Nat.le_of_lt (Nat.lt_of_not_le (fun w => h9 (nI_le w (by omega))))

