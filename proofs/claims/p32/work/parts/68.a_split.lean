-- drives in two parts, and as a whole
theorem kw_qF {v : Int32} {m : Nat} (hm : m ≤ 8) (h : v = -1 ∨ ∃ t : Nat, v = nI t ∧ 5 * m ≤ t ∧ t ≤ 1000) : ¬ v < -1 ∧ ¬ 1000 < v ∧ (¬ v < 0 → ¬ v < 5 * nI m) := by
  have e5 : (5 : Int32) * nI m = nI (5 * m) := pk_mul 5 m
  rcases h with rfl | ⟨t, rfl, h1, h2⟩
  · exact ⟨by decide, by decide, fun w => absurd (by decide) w⟩
  · refine ⟨fun w => ?_, nI_nlt (a := 1000) h2 (by decide), fun _ => ?_⟩
    · rw [Int32.lt_iff_toInt_lt, nI_toInt (by omega)] at w
      have : (-1 : Int32).toInt = -1 := by decide
      omega
    · rw [e5]; exact nI_nlt h1 (by omega)

set_option maxRecDepth 100000 in
set_option maxHeartbeats 4000000 in
theorem m_L_isSplit {X : kn_X} {σ : kn_S} {τ : kn_T} {z : kn_Z} {Q : kn_Q} {B m fi sp lo oc a b : Nat} {g : Nat → Int32} {l : List kw_G} (hK : kn_isK z) (W : kw_W σ B g m fi l) (hB : B + 10000 < 1000000000) (h1 : 500 ≤ sp) (h2 : sp ≤ 7000) (h3 : lo ≤ 100) (hoc : 80 ≤ oc ∧ oc ≤ 110) (ha : a ≤ 99) (hb : b ≤ 99) (hQ : ∀ (σ9 : kn_S) (l9 : List kw_G), kw_W σ9 (B + 4000) g m fi l9 → Q (.inl (some (.int 1))) σ9 τ z) : kn_Ev X ML_isSplit [.ref 0, .int (nI sp), .int (nI lo), .int (nI oc), .int (nI a), .int (nI b)] σ τ z 3200 19200 Q := by
  have W0 := W
  obtain ⟨⟨h, hfi, hJ⟩, -⟩ := W
  have hm := h.1.2.2.1.2
  obtain ⟨lc, hl, hlc⟩ := kw_lc hJ.1.2.2.2.2
  have hop := kw_op h1 h2 h3
  obtain ⟨cl, hce, hcl⟩ := kr_cell hop
  refine kn_entry (by decide +kernel) rfl (Nat.le_of_ble_eq_true rfl) ?_
  show kn_Go X ML_isSplit 0 [(0, .ref 0), (1, .int (nI sp)), (2, .int (nI lo)), (3, .int (nI oc)), (4, .int (nI a)), (5, .int (nI b))] [] _ _ _ _ _ _
  have cut213 : ∀ (a13 a12 a8 : Int32) (a9 : Int64) (σ8 : kn_S) (l8 : List kw_G), kw_W σ8 (B + 4000) g m fi l8 → kn_Go X ML_isSplit 213 [(13, .int a13), (12, .int a12), (11, .int 1), (9, .long a9), (8, .int a8), (6, .long (kw_pr g m fi lc)), (5, .int (nI b)), (4, .int (nI a)), (3, .int (nI oc)), (2, .int (nI lo)), (1, .int (nI sp)), (0, .ref 0)] [] σ8 τ z (620) (3720) Q := by
    intro a13 a12 a8 a9 σ8 l8 W9
    refine k_aload_n 0 dL_isSplit_213 rfl rfl ?_
    refine k_invS2 (20) (120) (As := [_]) dL_isSplit_214 mm_L_print wL_L_115 ⟨by decide, by decide⟩ rfl rfl (Nat.le_of_ble_eq_true rfl) (by omega) (by omega) (m_L_print (m := m) (fi := fi) (g := g) hK W9.1.1 hl hlc ⟨rfl, ?_⟩)
    refine k_lload dL_isSplit_217 rfl ?_
    refine k_lcmp dL_isSplit_219 ?_
    rw [kr_lcmp]
    refine k_ifne 227 dL_isSplit_220 (by decide) (fun h220 => ?_) (fun h220 => ?_)
    · exact absurd rfl h220
    · refine k_iconst (1) dL_isSplit_223 (by decide) ?_
      refine k_goto 228 dL_isSplit_224 (by decide) ?_
      refine k_iret dL_isSplit_228 rfl (rfl) ?_
      exact hQ _ _ W9
  have cut171 : ∀ (v8 a12 a8 : Int32) (a9 : Int64) (σ8 : kn_S) (l8 : List kw_G), (v8 = -1 ∨ ∃ c : Nat, v8 = nI c ∧ 80 ≤ c ∧ c ≤ 110 ∧ (gD m cl (nI sp) (nI lo) (nI c) g (1 + a)).1 = 0) → kw_W σ8 (B + 3000) g m fi l8 → kn_Go X ML_isSplit 171 [(13, .int v8), (12, .int a12), (11, .int 1), (9, .long a9), (8, .int a8), (6, .long (kw_pr g m fi lc)), (5, .int (nI b)), (4, .int (nI a)), (3, .int (nI oc)), (2, .int (nI lo)), (1, .int (nI sp)), (0, .ref 0)] [] σ8 τ z (640) (3840) Q := by
    intro v8 a12 a8 a9 σ8 l8 hv8 W8
    refine k_iload dL_isSplit_171 rfl ?_
    refine k_iconst (-1) dL_isSplit_173 (by decide) ?_
    refine k_icmpeq 213 dL_isSplit_174 (by decide) (fun h174 => ?_) (fun h174 => ?_)
    · exact k_room (by omega) (by omega) (cut213 _ _ _ _ _ _ (W8.to (by omega) (fun _ _ _ _ => rfl)))
    · obtain ⟨c8, rfl, q1, q2, q3⟩ := hv8.resolve_left h174
      refine k_iload dL_isSplit_177 rfl ?_
      refine k_bipush (79) dL_isSplit_179 (by decide) ?_
      refine k_icmple 227 dL_isSplit_181 (by decide) (fun h181 => ?_) (fun h181 => ?_)
      · exact absurd h181 (show ¬ nI c8 ≤ 79 from nI_ge (a := 79) (by omega) (by omega))
      · refine k_iload dL_isSplit_184 rfl ?_
        refine k_bipush (111) dL_isSplit_186 (by decide) ?_
        refine k_icmpge 227 dL_isSplit_188 (by decide) (fun h188 => ?_) (fun h188 => ?_)
        · exact absurd h188 (show ¬ (111 : Int32) ≤ nI c8 from nI_ge (b := 111) (by omega) (by decide))
        · refine k_aload_n 0 dL_isSplit_191 rfl rfl ?_
          refine k_iload_n 1 dL_isSplit_192 rfl rfl ?_
          refine k_iload_n 2 dL_isSplit_193 rfl rfl ?_
          refine k_iload dL_isSplit_194 rfl ?_
          refine k_iconst (1) dL_isSplit_196 (by decide) ?_
          refine k_iload dL_isSplit_197 rfl ?_
          refine k_iadd dL_isSplit_199 ?_
          rw [show (1 : Int32) + nI a = nI (1 + a) from nI_add 1 a]
          refine k_invSH2 (638) (3828) (As := [_, _, _, _, _]) dL_isSplit_200 mm_L_drive wL_L_131 ⟨by decide, by decide⟩ rfl rfl (Nat.le_of_ble_eq_true rfl) (by omega) (by omega) (cw_drive (g := g) (m := m) (fi := fi) (v := 1 + a) hK W8 ⟨hop, kr_oct80 q1 q2, hce, hcl⟩ (show 1 + a ≤ 1000 by omega) (by omega) (fun σa Wa => ⟨rfl, ?_⟩))
          rw [q3]
          refine k_ifne 227 dL_isSplit_203 (by decide) (fun h203 => ?_) (fun h203 => ?_)
          · exact absurd rfl h203
          · refine k_aload_n 0 dL_isSplit_206 rfl rfl ?_
            refine k_invSH2 (636) (3816) (As := [_]) dL_isSplit_207 mm_L_undo wL_L_160 ⟨by decide, by decide⟩ rfl rfl (Nat.le_of_ble_eq_true rfl) (by omega) (by omega) (cw_undo (q := (g, m, fi)) (l := l8.take 3) hK Wa (fun σb kb hkb Wb => ⟨rfl, ?_⟩))
            refine k_iflt 227 dL_isSplit_210 (by decide) (fun h210 => ?_) (fun h210 => ?_)
            · exact absurd h210 (nI_pos (by omega))
            · exact k_room (by omega) (by omega) (cut213 _ _ _ _ _ _ Wb)
  refine k_aload_n 0 dL_isSplit_0 rfl rfl ?_
  refine k_invS2 (2600) (15600) (As := [_]) dL_isSplit_1 mm_L_print wL_L_115 ⟨by decide, by decide⟩ rfl rfl (Nat.le_of_ble_eq_true rfl) (by omega) (by omega) (m_L_print hK h hl hlc ⟨rfl, ?_⟩)
  refine k_lstore (lv' := [(6, _), (0, _), (1, _), (2, _), (3, _), (4, _), (5, _)]) dL_isSplit_4 (by decide) rfl ?_
  refine k_aload_n 0 dL_isSplit_6 rfl rfl ?_
  refine k_iload_n 1 dL_isSplit_7 rfl rfl ?_
  refine k_iload_n 2 dL_isSplit_8 rfl rfl ?_
  refine k_iload_n 3 dL_isSplit_9 rfl rfl ?_
  refine k_iload dL_isSplit_10 rfl ?_
  refine k_invSH2 (2598) (15588) (As := [_, _, _, _, _]) dL_isSplit_12 mm_L_drive wL_L_131 ⟨by decide, by decide⟩ rfl rfl (Nat.le_of_ble_eq_true rfl) (by omega) (by omega) (cw_drive hK W0 ⟨hop, kr_oct80 hoc.1 hoc.2, hce, hcl⟩ (show a ≤ 1000 by omega) (by omega) (fun σ1 W1 => ⟨rfl, ?_⟩))
  refine k_aload_n 0 dL_isSplit_15 rfl rfl ?_
  refine k_iload_n 1 dL_isSplit_16 rfl rfl ?_
  refine k_iload_n 2 dL_isSplit_17 rfl rfl ?_
  refine k_iload_n 3 dL_isSplit_18 rfl rfl ?_
  refine k_iload dL_isSplit_19 rfl ?_
  refine k_invSH2 (2596) (15576) (As := [_, _, _, _, _]) dL_isSplit_21 mm_L_drive wL_L_131 ⟨by decide, by decide⟩ rfl rfl (Nat.le_of_ble_eq_true rfl) (by omega) (by omega) (cw_drive hK W1 ⟨hop, kr_oct80 hoc.1 hoc.2, hce, hcl⟩ (show b ≤ 1000 by omega) (by omega) (fun σ2 W2 => ⟨rfl, ?_⟩))
  refine k_iadd dL_isSplit_24 ?_
  obtain ⟨c1, hc1, e1⟩ := gD_le m cl (nI sp) (nI lo) (nI oc) g a
  obtain ⟨c2, hc2, e2⟩ := gD_le m cl (nI sp) (nI lo) (nI oc) (gD m cl (nI sp) (nI lo) (nI oc) g a).2 b
  rw [e1, e2, nI_add]
  refine k_istore (lv' := [(8, _), (6, _), (0, _), (1, _), (2, _), (3, _), (4, _), (5, _)]) dL_isSplit_25 (by decide) rfl ?_
  obtain ⟨lc2, hl2, hlc2⟩ := kw_lc W2.1.2.2.1.2.2.2.2
  refine k_aload_n 0 dL_isSplit_27 rfl rfl ?_
  refine k_invS2 (1996) (11976) (As := [_]) dL_isSplit_28 mm_L_print wL_L_115 ⟨by decide, by decide⟩ rfl rfl (Nat.le_of_ble_eq_true rfl) (by omega) (by omega) (m_L_print hK W2.1.1 hl2 hlc2 ⟨rfl, ?_⟩)
  refine k_lstore (lv' := [(9, _), (8, _), (6, _), (0, _), (1, _), (2, _), (3, _), (4, _), (5, _)]) dL_isSplit_31 (by decide) rfl ?_
  refine k_iload dL_isSplit_33 rfl ?_
  refine k_iflt 110 dL_isSplit_35 (by decide) (fun h35 => ?_) (fun h35 => ?_)
  · exact absurd h35 (nI_pos (by omega))
  · refine k_iload dL_isSplit_38 rfl ?_
    refine k_iload dL_isSplit_40 rfl ?_
    refine k_iload dL_isSplit_42 rfl ?_
    refine k_iadd dL_isSplit_44 ?_
    rw [nI_add a b]
    refine k_icmpgt 110 dL_isSplit_45 (by decide) (fun h45 => ?_) (fun h45 => ?_)
    · exact absurd h45 (nI_nlt (by omega) (by omega))
    · refine k_aload_n 0 dL_isSplit_48 rfl rfl ?_
      refine k_invSH2 (1994) (11964) (As := [_]) dL_isSplit_49 mm_L_undo wL_L_160 ⟨by decide, by decide⟩ rfl rfl (Nat.le_of_ble_eq_true rfl) (by omega) (by omega) (cw_undo (q := ((gD m cl (nI sp) (nI lo) (nI oc) g a).2, m, fi + a)) (l := (g, m, fi) :: (l.take 3).take 2) hK W2 (fun σ3 k3 hk3 W3 => ⟨rfl, ?_⟩))
      refine k_iflt 110 dL_isSplit_52 (by decide) (fun h52 => ?_) (fun h52 => ?_)
      · exact absurd h52 (nI_pos (by omega))
      · refine k_aload_n 0 dL_isSplit_55 rfl rfl ?_
        refine k_invSH2 (1992) (11952) (As := [_]) dL_isSplit_56 mm_L_undo wL_L_160 ⟨by decide, by decide⟩ rfl rfl (Nat.le_of_ble_eq_true rfl) (by omega) (by omega) (cw_undo (q := (g, m, fi)) (l := (l.take 3).take 2) hK W3 (fun σ4 k4 hk4 W4 => ⟨rfl, ?_⟩))
        refine k_iflt 110 dL_isSplit_59 (by decide) (fun h59 => ?_) (fun h59 => ?_)
        · exact absurd h59 (nI_pos (by omega))
        · refine k_aload_n 0 dL_isSplit_62 rfl rfl ?_
          refine k_invS2 (1392) (8352) (As := [_]) dL_isSplit_63 mm_L_print wL_L_115 ⟨by decide, by decide⟩ rfl rfl (Nat.le_of_ble_eq_true rfl) (by omega) (by omega) (m_L_print (m := m) (fi := fi) (g := g) hK W4.1.1 hl hlc ⟨rfl, ?_⟩)
          refine k_lload dL_isSplit_66 rfl ?_
          refine k_lcmp dL_isSplit_68 ?_
          rw [kr_lcmp]
          refine k_ifne 110 dL_isSplit_69 (by decide) (fun h69 => ?_) (fun h69 => ?_)
          · exact absurd rfl h69
          · refine k_aload_n 0 dL_isSplit_72 rfl rfl ?_
            refine k_iload_n 1 dL_isSplit_73 rfl rfl ?_
            refine k_iload_n 2 dL_isSplit_74 rfl rfl ?_
            refine k_iload_n 3 dL_isSplit_75 rfl rfl ?_
            refine k_iload dL_isSplit_76 rfl ?_
            refine k_iload dL_isSplit_78 rfl ?_
            refine k_iadd dL_isSplit_80 ?_
            rw [nI_add a b]
            refine k_invSH2 (1390) (8340) (As := [_, _, _, _, _]) dL_isSplit_81 mm_L_drive wL_L_131 ⟨by decide, by decide⟩ rfl rfl (Nat.le_of_ble_eq_true rfl) (by omega) (by omega) (cw_drive (g := g) (m := m) (fi := fi) (v := a + b) hK W4 ⟨hop, kr_oct80 hoc.1 hoc.2, hce, hcl⟩ (show a + b ≤ 1000 by omega) (by omega) (fun σ5 W5 => ⟨rfl, ?_⟩))
            refine k_iload dL_isSplit_84 rfl ?_
            refine k_icmpne 110 dL_isSplit_86 (by decide) (fun h86 => ?_) (fun h86 => ?_)
            · exact absurd (show (gD m cl (nI sp) (nI lo) (nI oc) g (a + b)).1 = nI (c1 + c2) from by rw [gD_add]; show (gD m cl (nI sp) (nI lo) (nI oc) g a).1 + (gD m cl (nI sp) (nI lo) (nI oc) (gD m cl (nI sp) (nI lo) (nI oc) g a).2 b).1 = _; rw [e1, e2, nI_add]) h86
            · have W5 : kw_W σ5 (B + 1000 + 1000 + 1000) (gD m cl (nI sp) (nI lo) (nI oc) (gD m cl (nI sp) (nI lo) (nI oc) g a).2 b).2 m (fi + a + b) (kw_push (g, m, fi) ((l.take 3).take 2)) := by
                rw [gD_add, ← Nat.add_assoc fi a b] at W5
                exact W5
              refine k_aload_n 0 dL_isSplit_89 rfl rfl ?_
              refine k_invS2 (790) (4740) (As := [_]) dL_isSplit_90 mm_L_print wL_L_115 ⟨by decide, by decide⟩ rfl rfl (Nat.le_of_ble_eq_true rfl) (by omega) (by omega) (m_L_print hK W5.1.1 hl2 hlc2 ⟨rfl, ?_⟩)
              refine k_lload dL_isSplit_93 rfl ?_
              refine k_lcmp dL_isSplit_95 ?_
              rw [kr_lcmp]
              refine k_ifne 110 dL_isSplit_96 (by decide) (fun h96 => ?_) (fun h96 => ?_)
              · exact absurd rfl h96
              · refine k_aload_n 0 dL_isSplit_99 rfl rfl ?_
                refine k_invSH2 (788) (4728) (As := [_]) dL_isSplit_100 mm_L_undo wL_L_160 ⟨by decide, by decide⟩ rfl rfl (Nat.le_of_ble_eq_true rfl) (by omega) (by omega) (cw_undo (q := (g, m, fi)) (l := ((l.take 3).take 2).take 3) hK W5 (fun σ6 k6 hk6 W6 => ⟨rfl, ?_⟩))
                refine k_iflt 110 dL_isSplit_103 (by decide) (fun h103 => ?_) (fun h103 => ?_)
                · exact absurd h103 (nI_pos (by omega))
                · refine k_iconst (1) dL_isSplit_106 (by decide) ?_
                  refine k_goto 111 dL_isSplit_107 (by decide) ?_
                  refine k_istore (lv' := [(11, _), (9, _), (8, _), (6, _), (0, _), (1, _), (2, _), (3, _), (4, _), (5, _)]) dL_isSplit_111 (by decide) rfl ?_
                  refine k_aload_n 0 dL_isSplit_113 rfl rfl ?_
                  refine k_iload_n 1 dL_isSplit_114 rfl rfl ?_
                  refine k_iload_n 2 dL_isSplit_115 rfl rfl ?_
                  refine k_iload_n 3 dL_isSplit_116 rfl rfl ?_
                  refine k_invSH2 (786) (4716) (As := [_, _, _, _]) dL_isSplit_117 mm_L_quietAfter wL_L_147 ⟨by decide, by decide⟩ rfl rfl (Nat.le_of_ble_eq_true rfl) (by omega) (by omega) (cw_quiet (g := g) (m := m) (fi := fi) hK W6 ⟨hop, kr_oct80 hoc.1 hoc.2, hce, hcl⟩ (fun σ7 v7 hv7 W7 => ⟨rfl, ?_⟩))
                  refine k_istore (lv' := [(12, _), (11, _), (9, _), (8, _), (6, _), (0, _), (1, _), (2, _), (3, _), (4, _), (5, _)]) dL_isSplit_120 (by decide) rfl ?_
                  refine k_aload_n 0 dL_isSplit_122 rfl rfl ?_
                  refine k_iload_n 1 dL_isSplit_123 rfl rfl ?_
                  refine k_iload_n 2 dL_isSplit_124 rfl rfl ?_
                  refine k_iconst (1) dL_isSplit_125 (by decide) ?_
                  refine k_iload dL_isSplit_126 rfl ?_
                  refine k_iadd dL_isSplit_128 ?_
                  rw [show (1 : Int32) + nI a = nI (1 + a) from nI_add 1 a]
                  refine k_invSH2 (784) (4704) (As := [_, _, _, _]) dL_isSplit_129 mm_L_lowestOctane wL_L_149 ⟨by decide, by decide⟩ rfl rfl (Nat.le_of_ble_eq_true rfl) (by omega) (by omega) (cw_low (g := g) (m := m) (fi := fi) (cnt := 1 + a) hK W7 hop hce hcl (by omega) (by omega) (fun σ8 v8 hv8 W8 => ⟨rfl, ?_⟩))
                  refine k_istore (lv' := [(13, _), (12, _), (11, _), (9, _), (8, _), (6, _), (0, _), (1, _), (2, _), (3, _), (4, _), (5, _)]) dL_isSplit_132 (by decide) rfl ?_
                  refine k_iload dL_isSplit_134 rfl ?_
                  refine k_ifeq 227 dL_isSplit_136 (by decide) (fun h136 => ?_) (fun h136 => ?_)
                  · exact absurd h136 (by decide)
                  · refine k_iload dL_isSplit_139 rfl ?_
                    refine k_iconst (-1) dL_isSplit_141 (by decide) ?_
                    refine k_icmplt 227 dL_isSplit_142 (by decide) (fun h142 => ?_) (fun h142 => ?_)
                    · exact absurd h142 (kw_qF hm.2 hv7).1
                    · refine k_iload dL_isSplit_145 rfl ?_
                      refine k_sipush (1000) dL_isSplit_147 (by decide) ?_
                      refine k_icmpgt 227 dL_isSplit_150 (by decide) (fun h150 => ?_) (fun h150 => ?_)
                      · exact absurd h150 (kw_qF hm.2 hv7).2.1
                      · refine k_iload dL_isSplit_153 rfl ?_
                        refine k_iflt 171 dL_isSplit_155 (by decide) (fun h155 => ?_) (fun h155 => ?_)
                        · refine k_re [13, 12, 11, 9, 8, 6, 5, 4, 3, 2, 1, 0] (lv' := [(13, _), (12, _), (11, _), (9, _), (8, _), (6, _), (5, _), (4, _), (3, _), (2, _), (1, _), (0, _)]) rfl ?_
                          exact k_room (by omega) (by omega) (cut171 _ _ _ _ _ _ hv8 W8)
                        · refine k_iload dL_isSplit_158 rfl ?_
                          refine k_iconst (5) dL_isSplit_160 (by decide) ?_
                          refine k_aload_n 0 dL_isSplit_161 rfl rfl ?_
                          refine k_bipush (8) dL_isSplit_162 (by decide) ?_
                          refine k_invSH2 (782) (4692) (As := [_, _]) dL_isSplit_164 mm_L_value wL_L_101 ⟨by decide, by decide⟩ rfl rfl (Nat.le_of_ble_eq_true rfl) (by omega) (by omega) (cw_value (k := 8) (m := m) (g := g) hK W8.1.1 (by decide) ⟨rfl, ?_⟩)
                          refine k_imul dL_isSplit_167 ?_
                          rw [show kw_val g m 8 = nI m from if_pos rfl]
                          refine k_icmplt 227 dL_isSplit_168 (by decide) (fun h168 => ?_) (fun h168 => ?_)
                          · exact absurd h168 ((kw_qF hm.2 hv7).2.2 h155)
                          · refine k_re [13, 12, 11, 9, 8, 6, 5, 4, 3, 2, 1, 0] (lv' := [(13, _), (12, _), (11, _), (9, _), (8, _), (6, _), (5, _), (4, _), (3, _), (2, _), (1, _), (0, _)]) rfl ?_
                            exact k_room (by omega) (by omega) (cut171 _ _ _ _ _ _ hv8 W8)

