-- the law's cases, more
set_option maxRecDepth 100000 in
set_option maxHeartbeats 4000000 in
theorem c_extreme {X : kn_X} {σ : kn_S} {τ : kn_T} {z : kn_Z} {B c n i : Nat} {Q : kn_Q} (hV : kr_V z) (W : kr_Ws σ B) (hB : B + 2000 < 16777216) (hi : i + 5 ≤ X.1) (hX : X.1 < 2 ^ 31) (k : ∀ (σ9 : kn_S) (τ9 : kn_T), kr_Ws σ9 (B + 1000) → kn_Go X ML_law 1775 [(5, .int (nI i)), (4, .ref 134), (3, .ref 133), (2, .ref 128), (1, .ref 0), (0, .retAddr 0)] [] σ9 τ9 z c n Q) : kn_Go X ML_law 1134 [(5, .int (nI i)), (4, .ref 134), (3, .ref 133), (2, .ref 128), (1, .ref 0), (0, .retAddr 0)] [] σ τ z (c + 2) (n + 12) Q := by
  have hin : ∀ j : Nat, j < 5 → vp_in (nI i + nI j) X.1 := fun j hj => by rw [nI_add]; exact vp_in_nI (by omega) hX
  by_cases hb2 : kn_rv X 0 (nI i + 2).toNatClampNeg = 0
  · by_cases hb3 : kn_rv X 0 (nI i + 3).toNatClampNeg = 0
    · refine k_aload_n 1 dL_law_1134 rfl rfl ?_
      refine k_aload_nR 0 dL_law_1135 rfl rfl ?_
      refine k_iload dL_law_1136 rfl ?_
      refine k_iconst (1) dL_law_1138 (by decide) ?_
      refine k_iadd dL_law_1139 ?_
      refine k_roload dL_law_1140 (by decide) (hin 1 (by decide)) ?_
      refine k_aload_nR 0 dL_law_1141 rfl rfl ?_
      refine k_iload dL_law_1142 rfl ?_
      refine k_iconst (2) dL_law_1144 (by decide) ?_
      refine k_iadd dL_law_1145 ?_
      refine k_roload dL_law_1146 (by decide) (hin 2 (by decide)) ?_
      refine k_ifeq 1154 dL_law_1147 (by decide) (fun h1147 => ?_) (fun h1147 => ?_)
      · refine k_iconst (0) dL_law_1154 (by decide) ?_
        refine k_aload_nR 0 dL_law_1155 rfl rfl ?_
        refine k_iload dL_law_1156 rfl ?_
        refine k_iconst (3) dL_law_1158 (by decide) ?_
        refine k_iadd dL_law_1159 ?_
        refine k_roload dL_law_1160 (by decide) (hin 3 (by decide)) ?_
        refine k_ifeq 1168 dL_law_1161 (by decide) (fun h1161 => ?_) (fun h1161 => ?_)
        · refine k_iconst (0) dL_law_1168 (by decide) ?_
          refine k_aload_n 3 dL_law_1169 rfl rfl ?_
          refine k_invSH (As := [_, _, _, _, _]) dL_law_1170 mm_L_extreme wL_L_155 ⟨by decide, by decide⟩ rfl rfl (Nat.le_of_ble_eq_true rfl) (c1 := 2) (n1 := 12) (by omega) (by omega) (cs_extreme _ _ _ hV W  _ (fun κ v σ1 τ1 h1 hm => ⟨rfl, ?_⟩))
          show kn_Go X ML_law 1173 _ _ σ1 τ1 z (c + 2 - 2) (n + 12 - 12) Q; rw [Nat.add_sub_cancel, Nat.add_sub_cancel]
          refine k_istore (lv' := [(6, _), (5, _), (4, _), (3, _), (2, _), (1, _), (0, _)]) dL_law_1173 (by decide) rfl ?_
          refine k_aload_n 2 dL_law_1175 rfl rfl ?_
          refine k_aload_nR 0 dL_law_1176 rfl rfl ?_
          refine k_iload dL_law_1177 rfl ?_
          refine k_iconst (1) dL_law_1179 (by decide) ?_
          refine k_iadd dL_law_1180 ?_
          refine k_roload dL_law_1181 (by decide) (hin 1 (by decide)) ?_
          refine k_aload_nR 0 dL_law_1182 rfl rfl ?_
          refine k_iload dL_law_1183 rfl ?_
          refine k_iconst (2) dL_law_1185 (by decide) ?_
          refine k_iadd dL_law_1186 ?_
          refine k_roload dL_law_1187 (by decide) (hin 2 (by decide)) ?_
          refine k_ifeq 1195 dL_law_1188 (by decide) (fun h1188 => ?_) (fun h1188 => ?_)
          · refine k_iconst (0) dL_law_1195 (by decide) ?_
            refine k_aload_nR 0 dL_law_1196 rfl rfl ?_
            refine k_iload dL_law_1197 rfl ?_
            refine k_iconst (3) dL_law_1199 (by decide) ?_
            refine k_iadd dL_law_1200 ?_
            refine k_roload dL_law_1201 (by decide) (hin 3 (by decide)) ?_
            refine k_ifeq 1209 dL_law_1202 (by decide) (fun h1202 => ?_) (fun h1202 => ?_)
            · refine k_iconst (0) dL_law_1209 (by decide) ?_
              refine k_invV (As := [_, _, _]) dL_law_1210 mm_X7_extreme wL_L_158 ⟨by decide, by decide⟩ hV.2.1.1.1 hV.2.1.1.2 rfl rfl (Nat.le_of_ble_eq_true rfl) (Nat.zero_le _) (Nat.zero_le _) (hm _ (fun b σ2 g1 g2 g3 => ⟨rfl, ?_⟩))
              refine k_istore (lv' := [(7, _), (6, _), (5, _), (4, _), (3, _), (2, _), (1, _), (0, _)]) dL_law_1213 (by decide) rfl ?_
              refine k_aload_n 2 dL_law_1215 rfl rfl ?_
              refine k_invV (As := []) dL_law_1216 mm_X7_thrown wL_L_93 ⟨by decide, by decide⟩ hV.2.1.1.1 hV.2.1.1.2 rfl rfl (Nat.le_of_ble_eq_true rfl) (Nat.zero_le _) (Nat.zero_le _) (m_X7_thrown hV.2.1 ⟨rfl, ?_⟩)
              refine k_iload dL_law_1219 rfl ?_
              rw [g1]
              refine k_icmpeq 1226 dL_law_1221 (by decide) (fun h1221 => ?_) (fun h1221 => ?_)
              · refine k_iload dL_law_1226 rfl ?_
                refine k_ifne 1243 dL_law_1228 (by decide) (fun h1228 => ?_) (fun h1228 => ?_)
                · refine k_goto 1775 dL_law_1243 (by decide) ?_
                  refine k_re [5, 4, 3, 2, 1, 0] (lv' := [(5, _), (4, _), (3, _), (2, _), (1, _), (0, _)]) rfl ?_
                  exact k _ _ g3
                · refine k_aload_n 3 dL_law_1231 rfl rfl ?_
                  refine k_iconst (0) dL_law_1232 (by decide) ?_
                  refine k_laload dL_law_1233 hV.2.2.1.1 hV.2.2.1.2 (vp_in_nI (n := 0) (by decide) (by decide)) ?_
                  refine k_iload dL_law_1234 rfl ?_
                  refine k_i2l dL_law_1236 ?_
                  refine k_lcmp dL_law_1237 ?_
                  rw [g2 h1228, show τ1 133 (Int32.toNatClampNeg 0) = v.toInt64 from h1 h1228, kr_lcmp]
                  refine k_ifeq 1243 dL_law_1238 (by decide) (fun h1238 => ?_) (fun h1238 => ?_)
                  · refine k_goto 1775 dL_law_1243 (by decide) ?_
                    refine k_re [5, 4, 3, 2, 1, 0] (lv' := [(5, _), (4, _), (3, _), (2, _), (1, _), (0, _)]) rfl ?_
                    exact k _ _ g3
                  · exact absurd rfl h1238
              · exact absurd rfl h1221
            · exact absurd hb3 h1202
          · exact absurd hb2 h1188
        · exact absurd hb3 h1161
      · exact absurd hb2 h1147
    · refine k_aload_n 1 dL_law_1134 rfl rfl ?_
      refine k_aload_nR 0 dL_law_1135 rfl rfl ?_
      refine k_iload dL_law_1136 rfl ?_
      refine k_iconst (1) dL_law_1138 (by decide) ?_
      refine k_iadd dL_law_1139 ?_
      refine k_roload dL_law_1140 (by decide) (hin 1 (by decide)) ?_
      refine k_aload_nR 0 dL_law_1141 rfl rfl ?_
      refine k_iload dL_law_1142 rfl ?_
      refine k_iconst (2) dL_law_1144 (by decide) ?_
      refine k_iadd dL_law_1145 ?_
      refine k_roload dL_law_1146 (by decide) (hin 2 (by decide)) ?_
      refine k_ifeq 1154 dL_law_1147 (by decide) (fun h1147 => ?_) (fun h1147 => ?_)
      · refine k_iconst (0) dL_law_1154 (by decide) ?_
        refine k_aload_nR 0 dL_law_1155 rfl rfl ?_
        refine k_iload dL_law_1156 rfl ?_
        refine k_iconst (3) dL_law_1158 (by decide) ?_
        refine k_iadd dL_law_1159 ?_
        refine k_roload dL_law_1160 (by decide) (hin 3 (by decide)) ?_
        refine k_ifeq 1168 dL_law_1161 (by decide) (fun h1161 => ?_) (fun h1161 => ?_)
        · exact absurd h1161 hb3
        · refine k_iconst (1) dL_law_1164 (by decide) ?_
          refine k_goto 1169 dL_law_1165 (by decide) ?_
          refine k_aload_n 3 dL_law_1169 rfl rfl ?_
          refine k_invSH (As := [_, _, _, _, _]) dL_law_1170 mm_L_extreme wL_L_155 ⟨by decide, by decide⟩ rfl rfl (Nat.le_of_ble_eq_true rfl) (c1 := 2) (n1 := 12) (by omega) (by omega) (cs_extreme _ _ _ hV W  _ (fun κ v σ1 τ1 h1 hm => ⟨rfl, ?_⟩))
          show kn_Go X ML_law 1173 _ _ σ1 τ1 z (c + 2 - 2) (n + 12 - 12) Q; rw [Nat.add_sub_cancel, Nat.add_sub_cancel]
          refine k_istore (lv' := [(6, _), (5, _), (4, _), (3, _), (2, _), (1, _), (0, _)]) dL_law_1173 (by decide) rfl ?_
          refine k_aload_n 2 dL_law_1175 rfl rfl ?_
          refine k_aload_nR 0 dL_law_1176 rfl rfl ?_
          refine k_iload dL_law_1177 rfl ?_
          refine k_iconst (1) dL_law_1179 (by decide) ?_
          refine k_iadd dL_law_1180 ?_
          refine k_roload dL_law_1181 (by decide) (hin 1 (by decide)) ?_
          refine k_aload_nR 0 dL_law_1182 rfl rfl ?_
          refine k_iload dL_law_1183 rfl ?_
          refine k_iconst (2) dL_law_1185 (by decide) ?_
          refine k_iadd dL_law_1186 ?_
          refine k_roload dL_law_1187 (by decide) (hin 2 (by decide)) ?_
          refine k_ifeq 1195 dL_law_1188 (by decide) (fun h1188 => ?_) (fun h1188 => ?_)
          · refine k_iconst (0) dL_law_1195 (by decide) ?_
            refine k_aload_nR 0 dL_law_1196 rfl rfl ?_
            refine k_iload dL_law_1197 rfl ?_
            refine k_iconst (3) dL_law_1199 (by decide) ?_
            refine k_iadd dL_law_1200 ?_
            refine k_roload dL_law_1201 (by decide) (hin 3 (by decide)) ?_
            refine k_ifeq 1209 dL_law_1202 (by decide) (fun h1202 => ?_) (fun h1202 => ?_)
            · exact absurd h1202 hb3
            · refine k_iconst (1) dL_law_1205 (by decide) ?_
              refine k_goto 1210 dL_law_1206 (by decide) ?_
              refine k_invV (As := [_, _, _]) dL_law_1210 mm_X7_extreme wL_L_158 ⟨by decide, by decide⟩ hV.2.1.1.1 hV.2.1.1.2 rfl rfl (Nat.le_of_ble_eq_true rfl) (Nat.zero_le _) (Nat.zero_le _) (hm _ (fun b σ2 g1 g2 g3 => ⟨rfl, ?_⟩))
              refine k_istore (lv' := [(7, _), (6, _), (5, _), (4, _), (3, _), (2, _), (1, _), (0, _)]) dL_law_1213 (by decide) rfl ?_
              refine k_aload_n 2 dL_law_1215 rfl rfl ?_
              refine k_invV (As := []) dL_law_1216 mm_X7_thrown wL_L_93 ⟨by decide, by decide⟩ hV.2.1.1.1 hV.2.1.1.2 rfl rfl (Nat.le_of_ble_eq_true rfl) (Nat.zero_le _) (Nat.zero_le _) (m_X7_thrown hV.2.1 ⟨rfl, ?_⟩)
              refine k_iload dL_law_1219 rfl ?_
              rw [g1]
              refine k_icmpeq 1226 dL_law_1221 (by decide) (fun h1221 => ?_) (fun h1221 => ?_)
              · refine k_iload dL_law_1226 rfl ?_
                refine k_ifne 1243 dL_law_1228 (by decide) (fun h1228 => ?_) (fun h1228 => ?_)
                · refine k_goto 1775 dL_law_1243 (by decide) ?_
                  refine k_re [5, 4, 3, 2, 1, 0] (lv' := [(5, _), (4, _), (3, _), (2, _), (1, _), (0, _)]) rfl ?_
                  exact k _ _ g3
                · refine k_aload_n 3 dL_law_1231 rfl rfl ?_
                  refine k_iconst (0) dL_law_1232 (by decide) ?_
                  refine k_laload dL_law_1233 hV.2.2.1.1 hV.2.2.1.2 (vp_in_nI (n := 0) (by decide) (by decide)) ?_
                  refine k_iload dL_law_1234 rfl ?_
                  refine k_i2l dL_law_1236 ?_
                  refine k_lcmp dL_law_1237 ?_
                  rw [g2 h1228, show τ1 133 (Int32.toNatClampNeg 0) = v.toInt64 from h1 h1228, kr_lcmp]
                  refine k_ifeq 1243 dL_law_1238 (by decide) (fun h1238 => ?_) (fun h1238 => ?_)
                  · refine k_goto 1775 dL_law_1243 (by decide) ?_
                    refine k_re [5, 4, 3, 2, 1, 0] (lv' := [(5, _), (4, _), (3, _), (2, _), (1, _), (0, _)]) rfl ?_
                    exact k _ _ g3
                  · exact absurd rfl h1238
              · exact absurd rfl h1221
          · exact absurd hb2 h1188
      · exact absurd hb2 h1147
  · by_cases hb3 : kn_rv X 0 (nI i + 3).toNatClampNeg = 0
    · refine k_aload_n 1 dL_law_1134 rfl rfl ?_
      refine k_aload_nR 0 dL_law_1135 rfl rfl ?_
      refine k_iload dL_law_1136 rfl ?_
      refine k_iconst (1) dL_law_1138 (by decide) ?_
      refine k_iadd dL_law_1139 ?_
      refine k_roload dL_law_1140 (by decide) (hin 1 (by decide)) ?_
      refine k_aload_nR 0 dL_law_1141 rfl rfl ?_
      refine k_iload dL_law_1142 rfl ?_
      refine k_iconst (2) dL_law_1144 (by decide) ?_
      refine k_iadd dL_law_1145 ?_
      refine k_roload dL_law_1146 (by decide) (hin 2 (by decide)) ?_
      refine k_ifeq 1154 dL_law_1147 (by decide) (fun h1147 => ?_) (fun h1147 => ?_)
      · exact absurd h1147 hb2
      · refine k_iconst (1) dL_law_1150 (by decide) ?_
        refine k_goto 1155 dL_law_1151 (by decide) ?_
        refine k_aload_nR 0 dL_law_1155 rfl rfl ?_
        refine k_iload dL_law_1156 rfl ?_
        refine k_iconst (3) dL_law_1158 (by decide) ?_
        refine k_iadd dL_law_1159 ?_
        refine k_roload dL_law_1160 (by decide) (hin 3 (by decide)) ?_
        refine k_ifeq 1168 dL_law_1161 (by decide) (fun h1161 => ?_) (fun h1161 => ?_)
        · refine k_iconst (0) dL_law_1168 (by decide) ?_
          refine k_aload_n 3 dL_law_1169 rfl rfl ?_
          refine k_invSH (As := [_, _, _, _, _]) dL_law_1170 mm_L_extreme wL_L_155 ⟨by decide, by decide⟩ rfl rfl (Nat.le_of_ble_eq_true rfl) (c1 := 2) (n1 := 12) (by omega) (by omega) (cs_extreme _ _ _ hV W  _ (fun κ v σ1 τ1 h1 hm => ⟨rfl, ?_⟩))
          show kn_Go X ML_law 1173 _ _ σ1 τ1 z (c + 2 - 2) (n + 12 - 12) Q; rw [Nat.add_sub_cancel, Nat.add_sub_cancel]
          refine k_istore (lv' := [(6, _), (5, _), (4, _), (3, _), (2, _), (1, _), (0, _)]) dL_law_1173 (by decide) rfl ?_
          refine k_aload_n 2 dL_law_1175 rfl rfl ?_
          refine k_aload_nR 0 dL_law_1176 rfl rfl ?_
          refine k_iload dL_law_1177 rfl ?_
          refine k_iconst (1) dL_law_1179 (by decide) ?_
          refine k_iadd dL_law_1180 ?_
          refine k_roload dL_law_1181 (by decide) (hin 1 (by decide)) ?_
          refine k_aload_nR 0 dL_law_1182 rfl rfl ?_
          refine k_iload dL_law_1183 rfl ?_
          refine k_iconst (2) dL_law_1185 (by decide) ?_
          refine k_iadd dL_law_1186 ?_
          refine k_roload dL_law_1187 (by decide) (hin 2 (by decide)) ?_
          refine k_ifeq 1195 dL_law_1188 (by decide) (fun h1188 => ?_) (fun h1188 => ?_)
          · exact absurd h1188 hb2
          · refine k_iconst (1) dL_law_1191 (by decide) ?_
            refine k_goto 1196 dL_law_1192 (by decide) ?_
            refine k_aload_nR 0 dL_law_1196 rfl rfl ?_
            refine k_iload dL_law_1197 rfl ?_
            refine k_iconst (3) dL_law_1199 (by decide) ?_
            refine k_iadd dL_law_1200 ?_
            refine k_roload dL_law_1201 (by decide) (hin 3 (by decide)) ?_
            refine k_ifeq 1209 dL_law_1202 (by decide) (fun h1202 => ?_) (fun h1202 => ?_)
            · refine k_iconst (0) dL_law_1209 (by decide) ?_
              refine k_invV (As := [_, _, _]) dL_law_1210 mm_X7_extreme wL_L_158 ⟨by decide, by decide⟩ hV.2.1.1.1 hV.2.1.1.2 rfl rfl (Nat.le_of_ble_eq_true rfl) (Nat.zero_le _) (Nat.zero_le _) (hm _ (fun b σ2 g1 g2 g3 => ⟨rfl, ?_⟩))
              refine k_istore (lv' := [(7, _), (6, _), (5, _), (4, _), (3, _), (2, _), (1, _), (0, _)]) dL_law_1213 (by decide) rfl ?_
              refine k_aload_n 2 dL_law_1215 rfl rfl ?_
              refine k_invV (As := []) dL_law_1216 mm_X7_thrown wL_L_93 ⟨by decide, by decide⟩ hV.2.1.1.1 hV.2.1.1.2 rfl rfl (Nat.le_of_ble_eq_true rfl) (Nat.zero_le _) (Nat.zero_le _) (m_X7_thrown hV.2.1 ⟨rfl, ?_⟩)
              refine k_iload dL_law_1219 rfl ?_
              rw [g1]
              refine k_icmpeq 1226 dL_law_1221 (by decide) (fun h1221 => ?_) (fun h1221 => ?_)
              · refine k_iload dL_law_1226 rfl ?_
                refine k_ifne 1243 dL_law_1228 (by decide) (fun h1228 => ?_) (fun h1228 => ?_)
                · refine k_goto 1775 dL_law_1243 (by decide) ?_
                  refine k_re [5, 4, 3, 2, 1, 0] (lv' := [(5, _), (4, _), (3, _), (2, _), (1, _), (0, _)]) rfl ?_
                  exact k _ _ g3
                · refine k_aload_n 3 dL_law_1231 rfl rfl ?_
                  refine k_iconst (0) dL_law_1232 (by decide) ?_
                  refine k_laload dL_law_1233 hV.2.2.1.1 hV.2.2.1.2 (vp_in_nI (n := 0) (by decide) (by decide)) ?_
                  refine k_iload dL_law_1234 rfl ?_
                  refine k_i2l dL_law_1236 ?_
                  refine k_lcmp dL_law_1237 ?_
                  rw [g2 h1228, show τ1 133 (Int32.toNatClampNeg 0) = v.toInt64 from h1 h1228, kr_lcmp]
                  refine k_ifeq 1243 dL_law_1238 (by decide) (fun h1238 => ?_) (fun h1238 => ?_)
                  · refine k_goto 1775 dL_law_1243 (by decide) ?_
                    refine k_re [5, 4, 3, 2, 1, 0] (lv' := [(5, _), (4, _), (3, _), (2, _), (1, _), (0, _)]) rfl ?_
                    exact k _ _ g3
                  · exact absurd rfl h1238
              · exact absurd rfl h1221
            · exact absurd hb3 h1202
        · exact absurd hb3 h1161
    · refine k_aload_n 1 dL_law_1134 rfl rfl ?_
      refine k_aload_nR 0 dL_law_1135 rfl rfl ?_
      refine k_iload dL_law_1136 rfl ?_
      refine k_iconst (1) dL_law_1138 (by decide) ?_
      refine k_iadd dL_law_1139 ?_
      refine k_roload dL_law_1140 (by decide) (hin 1 (by decide)) ?_
      refine k_aload_nR 0 dL_law_1141 rfl rfl ?_
      refine k_iload dL_law_1142 rfl ?_
      refine k_iconst (2) dL_law_1144 (by decide) ?_
      refine k_iadd dL_law_1145 ?_
      refine k_roload dL_law_1146 (by decide) (hin 2 (by decide)) ?_
      refine k_ifeq 1154 dL_law_1147 (by decide) (fun h1147 => ?_) (fun h1147 => ?_)
      · exact absurd h1147 hb2
      · refine k_iconst (1) dL_law_1150 (by decide) ?_
        refine k_goto 1155 dL_law_1151 (by decide) ?_
        refine k_aload_nR 0 dL_law_1155 rfl rfl ?_
        refine k_iload dL_law_1156 rfl ?_
        refine k_iconst (3) dL_law_1158 (by decide) ?_
        refine k_iadd dL_law_1159 ?_
        refine k_roload dL_law_1160 (by decide) (hin 3 (by decide)) ?_
        refine k_ifeq 1168 dL_law_1161 (by decide) (fun h1161 => ?_) (fun h1161 => ?_)
        · exact absurd h1161 hb3
        · refine k_iconst (1) dL_law_1164 (by decide) ?_
          refine k_goto 1169 dL_law_1165 (by decide) ?_
          refine k_aload_n 3 dL_law_1169 rfl rfl ?_
          refine k_invSH (As := [_, _, _, _, _]) dL_law_1170 mm_L_extreme wL_L_155 ⟨by decide, by decide⟩ rfl rfl (Nat.le_of_ble_eq_true rfl) (c1 := 2) (n1 := 12) (by omega) (by omega) (cs_extreme _ _ _ hV W  _ (fun κ v σ1 τ1 h1 hm => ⟨rfl, ?_⟩))
          show kn_Go X ML_law 1173 _ _ σ1 τ1 z (c + 2 - 2) (n + 12 - 12) Q; rw [Nat.add_sub_cancel, Nat.add_sub_cancel]
          refine k_istore (lv' := [(6, _), (5, _), (4, _), (3, _), (2, _), (1, _), (0, _)]) dL_law_1173 (by decide) rfl ?_
          refine k_aload_n 2 dL_law_1175 rfl rfl ?_
          refine k_aload_nR 0 dL_law_1176 rfl rfl ?_
          refine k_iload dL_law_1177 rfl ?_
          refine k_iconst (1) dL_law_1179 (by decide) ?_
          refine k_iadd dL_law_1180 ?_
          refine k_roload dL_law_1181 (by decide) (hin 1 (by decide)) ?_
          refine k_aload_nR 0 dL_law_1182 rfl rfl ?_
          refine k_iload dL_law_1183 rfl ?_
          refine k_iconst (2) dL_law_1185 (by decide) ?_
          refine k_iadd dL_law_1186 ?_
          refine k_roload dL_law_1187 (by decide) (hin 2 (by decide)) ?_
          refine k_ifeq 1195 dL_law_1188 (by decide) (fun h1188 => ?_) (fun h1188 => ?_)
          · exact absurd h1188 hb2
          · refine k_iconst (1) dL_law_1191 (by decide) ?_
            refine k_goto 1196 dL_law_1192 (by decide) ?_
            refine k_aload_nR 0 dL_law_1196 rfl rfl ?_
            refine k_iload dL_law_1197 rfl ?_
            refine k_iconst (3) dL_law_1199 (by decide) ?_
            refine k_iadd dL_law_1200 ?_
            refine k_roload dL_law_1201 (by decide) (hin 3 (by decide)) ?_
            refine k_ifeq 1209 dL_law_1202 (by decide) (fun h1202 => ?_) (fun h1202 => ?_)
            · exact absurd h1202 hb3
            · refine k_iconst (1) dL_law_1205 (by decide) ?_
              refine k_goto 1210 dL_law_1206 (by decide) ?_
              refine k_invV (As := [_, _, _]) dL_law_1210 mm_X7_extreme wL_L_158 ⟨by decide, by decide⟩ hV.2.1.1.1 hV.2.1.1.2 rfl rfl (Nat.le_of_ble_eq_true rfl) (Nat.zero_le _) (Nat.zero_le _) (hm _ (fun b σ2 g1 g2 g3 => ⟨rfl, ?_⟩))
              refine k_istore (lv' := [(7, _), (6, _), (5, _), (4, _), (3, _), (2, _), (1, _), (0, _)]) dL_law_1213 (by decide) rfl ?_
              refine k_aload_n 2 dL_law_1215 rfl rfl ?_
              refine k_invV (As := []) dL_law_1216 mm_X7_thrown wL_L_93 ⟨by decide, by decide⟩ hV.2.1.1.1 hV.2.1.1.2 rfl rfl (Nat.le_of_ble_eq_true rfl) (Nat.zero_le _) (Nat.zero_le _) (m_X7_thrown hV.2.1 ⟨rfl, ?_⟩)
              refine k_iload dL_law_1219 rfl ?_
              rw [g1]
              refine k_icmpeq 1226 dL_law_1221 (by decide) (fun h1221 => ?_) (fun h1221 => ?_)
              · refine k_iload dL_law_1226 rfl ?_
                refine k_ifne 1243 dL_law_1228 (by decide) (fun h1228 => ?_) (fun h1228 => ?_)
                · refine k_goto 1775 dL_law_1243 (by decide) ?_
                  refine k_re [5, 4, 3, 2, 1, 0] (lv' := [(5, _), (4, _), (3, _), (2, _), (1, _), (0, _)]) rfl ?_
                  exact k _ _ g3
                · refine k_aload_n 3 dL_law_1231 rfl rfl ?_
                  refine k_iconst (0) dL_law_1232 (by decide) ?_
                  refine k_laload dL_law_1233 hV.2.2.1.1 hV.2.2.1.2 (vp_in_nI (n := 0) (by decide) (by decide)) ?_
                  refine k_iload dL_law_1234 rfl ?_
                  refine k_i2l dL_law_1236 ?_
                  refine k_lcmp dL_law_1237 ?_
                  rw [g2 h1228, show τ1 133 (Int32.toNatClampNeg 0) = v.toInt64 from h1 h1228, kr_lcmp]
                  refine k_ifeq 1243 dL_law_1238 (by decide) (fun h1238 => ?_) (fun h1238 => ?_)
                  · refine k_goto 1775 dL_law_1243 (by decide) ?_
                    refine k_re [5, 4, 3, 2, 1, 0] (lv' := [(5, _), (4, _), (3, _), (2, _), (1, _), (0, _)]) rfl ?_
                    exact k _ _ g3
                  · exact absurd rfl h1238
              · exact absurd rfl h1221

set_option maxRecDepth 100000 in
set_option maxHeartbeats 4000000 in
theorem c_events {X : kn_X} {σ : kn_S} {τ : kn_T} {z : kn_Z} {B c n i : Nat} {Q : kn_Q} (hV : kr_V z) (W : kr_Ws σ B) (hB : B + 2000 < 16777216) (hi : i + 5 ≤ X.1) (hX : X.1 < 2 ^ 31) (k : ∀ (σ9 : kn_S) (τ9 : kn_T), kr_Ws σ9 (B + 1000) → kn_Go X ML_law 1775 [(5, .int (nI i)), (4, .ref 134), (3, .ref 133), (2, .ref 128), (1, .ref 0), (0, .retAddr 0)] [] σ9 τ9 z c n Q) : kn_Go X ML_law 1246 [(5, .int (nI i)), (4, .ref 134), (3, .ref 133), (2, .ref 128), (1, .ref 0), (0, .retAddr 0)] [] σ τ z (c + 2) (n + 12) Q := by
  have hin : ∀ j : Nat, j < 5 → vp_in (nI i + nI j) X.1 := fun j hj => by rw [nI_add]; exact vp_in_nI (by omega) hX
  refine k_aload_n 1 dL_law_1246 rfl rfl ?_
  refine k_invV (As := []) dL_law_1247 mm_X6_events wL_L_159 ⟨by decide, by decide⟩ hV.1.1.1 hV.1.1.2 rfl rfl (Nat.le_of_ble_eq_true rfl) (Nat.zero_le _) (Nat.zero_le _) (cn_events hV W  _ (fun v σ1 hm => ⟨rfl, ?_⟩))
  refine k_aload_n 2 dL_law_1250 rfl rfl ?_
  refine k_invV (As := []) dL_law_1251 mm_X7_events wL_L_162 ⟨by decide, by decide⟩ hV.2.1.1.1 hV.2.1.1.2 rfl rfl (Nat.le_of_ble_eq_true rfl) (Nat.zero_le _) (Nat.zero_le _) (hm _ (fun σ2 g3 => ⟨rfl, ?_⟩))
  refine k_icmpeq 1775 dL_law_1254 (by decide) (fun h1254 => ?_) (fun h1254 => ?_)
  · exact k_room (Nat.le_add_right _ _) (Nat.le_add_right _ _) (k _ _ g3)
  · exact absurd rfl h1254

set_option maxRecDepth 100000 in
set_option maxHeartbeats 4000000 in
theorem c_event {X : kn_X} {σ : kn_S} {τ : kn_T} {z : kn_Z} {B c n i : Nat} {Q : kn_Q} (hV : kr_V z) (W : kr_Ws σ B) (hB : B + 2000 < 16777216) (hi : i + 5 ≤ X.1) (hX : X.1 < 2 ^ 31) (k : ∀ (σ9 : kn_S) (τ9 : kn_T), kr_Ws σ9 (B + 1000) → kn_Go X ML_law 1775 [(5, .int (nI i)), (4, .ref 134), (3, .ref 133), (2, .ref 128), (1, .ref 0), (0, .retAddr 0)] [] σ9 τ9 z c n Q) : kn_Go X ML_law 1259 [(5, .int (nI i)), (4, .ref 134), (3, .ref 133), (2, .ref 128), (1, .ref 0), (0, .retAddr 0)] [] σ τ z (c + 2) (n + 12) Q := by
  have hin : ∀ j : Nat, j < 5 → vp_in (nI i + nI j) X.1 := fun j hj => by rw [nI_add]; exact vp_in_nI (by omega) hX
  refine k_aload_n 1 dL_law_1259 rfl rfl ?_
  refine k_aload_nR 0 dL_law_1260 rfl rfl ?_
  refine k_iload dL_law_1261 rfl ?_
  refine k_iconst (1) dL_law_1263 (by decide) ?_
  refine k_iadd dL_law_1264 ?_
  refine k_roload dL_law_1265 (by decide) (hin 1 (by decide)) ?_
  refine k_aload_nR 0 dL_law_1266 rfl rfl ?_
  refine k_iload dL_law_1267 rfl ?_
  refine k_iconst (2) dL_law_1269 (by decide) ?_
  refine k_iadd dL_law_1270 ?_
  refine k_roload dL_law_1271 (by decide) (hin 2 (by decide)) ?_
  refine k_aload_n 3 dL_law_1272 rfl rfl ?_
  refine k_invSH (As := [_, _, _, _]) dL_law_1273 mm_L_event wL_L_163 ⟨by decide, by decide⟩ rfl rfl (Nat.le_of_ble_eq_true rfl) (c1 := 2) (n1 := 12) (by omega) (by omega) (cs_event _ _ hV W  _ (fun κ v σ1 τ1 h1 hm => ⟨rfl, ?_⟩))
  show kn_Go X ML_law 1276 _ _ σ1 τ1 z (c + 2 - 2) (n + 12 - 12) Q; rw [Nat.add_sub_cancel, Nat.add_sub_cancel]
  refine k_istore (lv' := [(6, _), (5, _), (4, _), (3, _), (2, _), (1, _), (0, _)]) dL_law_1276 (by decide) rfl ?_
  refine k_aload_n 2 dL_law_1278 rfl rfl ?_
  refine k_aload_nR 0 dL_law_1279 rfl rfl ?_
  refine k_iload dL_law_1280 rfl ?_
  refine k_iconst (1) dL_law_1282 (by decide) ?_
  refine k_iadd dL_law_1283 ?_
  refine k_roload dL_law_1284 (by decide) (hin 1 (by decide)) ?_
  refine k_aload_nR 0 dL_law_1285 rfl rfl ?_
  refine k_iload dL_law_1286 rfl ?_
  refine k_iconst (2) dL_law_1288 (by decide) ?_
  refine k_iadd dL_law_1289 ?_
  refine k_roload dL_law_1290 (by decide) (hin 2 (by decide)) ?_
  refine k_invV (As := [_, _]) dL_law_1291 mm_X7_event wL_L_165 ⟨by decide, by decide⟩ hV.2.1.1.1 hV.2.1.1.2 rfl rfl (Nat.le_of_ble_eq_true rfl) (Nat.zero_le _) (Nat.zero_le _) (hm _ (fun b σ2 g1 g2 g3 => ⟨rfl, ?_⟩))
  refine k_istore (lv' := [(7, _), (6, _), (5, _), (4, _), (3, _), (2, _), (1, _), (0, _)]) dL_law_1294 (by decide) rfl ?_
  refine k_aload_n 2 dL_law_1296 rfl rfl ?_
  refine k_invV (As := []) dL_law_1297 mm_X7_thrown wL_L_93 ⟨by decide, by decide⟩ hV.2.1.1.1 hV.2.1.1.2 rfl rfl (Nat.le_of_ble_eq_true rfl) (Nat.zero_le _) (Nat.zero_le _) (m_X7_thrown hV.2.1 ⟨rfl, ?_⟩)
  refine k_iload dL_law_1300 rfl ?_
  rw [g1]
  refine k_icmpeq 1307 dL_law_1302 (by decide) (fun h1302 => ?_) (fun h1302 => ?_)
  · refine k_iload dL_law_1307 rfl ?_
    refine k_ifne 1324 dL_law_1309 (by decide) (fun h1309 => ?_) (fun h1309 => ?_)
    · refine k_goto 1775 dL_law_1324 (by decide) ?_
      refine k_re [5, 4, 3, 2, 1, 0] (lv' := [(5, _), (4, _), (3, _), (2, _), (1, _), (0, _)]) rfl ?_
      exact k _ _ g3
    · refine k_aload_n 3 dL_law_1312 rfl rfl ?_
      refine k_iconst (0) dL_law_1313 (by decide) ?_
      refine k_laload dL_law_1314 hV.2.2.1.1 hV.2.2.1.2 (vp_in_nI (n := 0) (by decide) (by decide)) ?_
      refine k_iload dL_law_1315 rfl ?_
      refine k_i2l dL_law_1317 ?_
      refine k_lcmp dL_law_1318 ?_
      rw [g2 h1309, show τ1 133 (Int32.toNatClampNeg 0) = v.toInt64 from h1 h1309, kr_lcmp]
      refine k_ifeq 1324 dL_law_1319 (by decide) (fun h1319 => ?_) (fun h1319 => ?_)
      · refine k_goto 1775 dL_law_1324 (by decide) ?_
        refine k_re [5, 4, 3, 2, 1, 0] (lv' := [(5, _), (4, _), (3, _), (2, _), (1, _), (0, _)]) rfl ?_
        exact k _ _ g3
      · exact absurd rfl h1319
  · exact absurd rfl h1302

set_option maxRecDepth 100000 in
set_option maxHeartbeats 4000000 in
theorem c_eventsOf {X : kn_X} {σ : kn_S} {τ : kn_T} {z : kn_Z} {B c n i : Nat} {Q : kn_Q} (hV : kr_V z) (W : kr_Ws σ B) (hB : B + 2000 < 16777216) (hi : i + 5 ≤ X.1) (hX : X.1 < 2 ^ 31) (k : ∀ (σ9 : kn_S) (τ9 : kn_T), kr_Ws σ9 (B + 1000) → kn_Go X ML_law 1775 [(5, .int (nI i)), (4, .ref 134), (3, .ref 133), (2, .ref 128), (1, .ref 0), (0, .retAddr 0)] [] σ9 τ9 z c n Q) : kn_Go X ML_law 1327 [(5, .int (nI i)), (4, .ref 134), (3, .ref 133), (2, .ref 128), (1, .ref 0), (0, .retAddr 0)] [] σ τ z (c + 2) (n + 12) Q := by
  have hin : ∀ j : Nat, j < 5 → vp_in (nI i + nI j) X.1 := fun j hj => by rw [nI_add]; exact vp_in_nI (by omega) hX
  refine k_aload_n 1 dL_law_1327 rfl rfl ?_
  refine k_aload_nR 0 dL_law_1328 rfl rfl ?_
  refine k_iload dL_law_1329 rfl ?_
  refine k_iconst (1) dL_law_1331 (by decide) ?_
  refine k_iadd dL_law_1332 ?_
  refine k_roload dL_law_1333 (by decide) (hin 1 (by decide)) ?_
  refine k_aload_n 3 dL_law_1334 rfl rfl ?_
  refine k_invSH (As := [_, _, _]) dL_law_1335 mm_L_eventsOf wL_L_166 ⟨by decide, by decide⟩ rfl rfl (Nat.le_of_ble_eq_true rfl) (c1 := 2) (n1 := 12) (by omega) (by omega) (cs_eventsOf _ hV W  _ (fun κ v σ1 τ1 h1 hm => ⟨rfl, ?_⟩))
  show kn_Go X ML_law 1338 _ _ σ1 τ1 z (c + 2 - 2) (n + 12 - 12) Q; rw [Nat.add_sub_cancel, Nat.add_sub_cancel]
  refine k_istore (lv' := [(6, _), (5, _), (4, _), (3, _), (2, _), (1, _), (0, _)]) dL_law_1338 (by decide) rfl ?_
  refine k_aload_n 2 dL_law_1340 rfl rfl ?_
  refine k_aload_nR 0 dL_law_1341 rfl rfl ?_
  refine k_iload dL_law_1342 rfl ?_
  refine k_iconst (1) dL_law_1344 (by decide) ?_
  refine k_iadd dL_law_1345 ?_
  refine k_roload dL_law_1346 (by decide) (hin 1 (by decide)) ?_
  refine k_invV (As := [_]) dL_law_1347 mm_X7_eventsOf wL_L_168 ⟨by decide, by decide⟩ hV.2.1.1.1 hV.2.1.1.2 rfl rfl (Nat.le_of_ble_eq_true rfl) (Nat.zero_le _) (Nat.zero_le _) (hm _ (fun b σ2 g1 g2 g3 => ⟨rfl, ?_⟩))
  refine k_istore (lv' := [(7, _), (6, _), (5, _), (4, _), (3, _), (2, _), (1, _), (0, _)]) dL_law_1350 (by decide) rfl ?_
  refine k_aload_n 2 dL_law_1352 rfl rfl ?_
  refine k_invV (As := []) dL_law_1353 mm_X7_thrown wL_L_93 ⟨by decide, by decide⟩ hV.2.1.1.1 hV.2.1.1.2 rfl rfl (Nat.le_of_ble_eq_true rfl) (Nat.zero_le _) (Nat.zero_le _) (m_X7_thrown hV.2.1 ⟨rfl, ?_⟩)
  refine k_iload dL_law_1356 rfl ?_
  rw [g1]
  refine k_icmpeq 1363 dL_law_1358 (by decide) (fun h1358 => ?_) (fun h1358 => ?_)
  · refine k_iload dL_law_1363 rfl ?_
    refine k_ifne 1380 dL_law_1365 (by decide) (fun h1365 => ?_) (fun h1365 => ?_)
    · refine k_goto 1775 dL_law_1380 (by decide) ?_
      refine k_re [5, 4, 3, 2, 1, 0] (lv' := [(5, _), (4, _), (3, _), (2, _), (1, _), (0, _)]) rfl ?_
      exact k _ _ g3
    · refine k_aload_n 3 dL_law_1368 rfl rfl ?_
      refine k_iconst (0) dL_law_1369 (by decide) ?_
      refine k_laload dL_law_1370 hV.2.2.1.1 hV.2.2.1.2 (vp_in_nI (n := 0) (by decide) (by decide)) ?_
      refine k_iload dL_law_1371 rfl ?_
      refine k_i2l dL_law_1373 ?_
      refine k_lcmp dL_law_1374 ?_
      rw [g2 h1365, show τ1 133 (Int32.toNatClampNeg 0) = v.toInt64 from h1 h1365, kr_lcmp]
      refine k_ifeq 1380 dL_law_1375 (by decide) (fun h1375 => ?_) (fun h1375 => ?_)
      · refine k_goto 1775 dL_law_1380 (by decide) ?_
        refine k_re [5, 4, 3, 2, 1, 0] (lv' := [(5, _), (4, _), (3, _), (2, _), (1, _), (0, _)]) rfl ?_
        exact k _ _ g3
      · exact absurd rfl h1375
  · exact absurd rfl h1358

set_option maxRecDepth 100000 in
set_option maxHeartbeats 4000000 in
theorem c_limit {X : kn_X} {σ : kn_S} {τ : kn_T} {z : kn_Z} {B c n i : Nat} {Q : kn_Q} (hV : kr_V z) (W : kr_Ws σ B) (hB : B + 2000 < 16777216) (hi : i + 5 ≤ X.1) (hX : X.1 < 2 ^ 31) (k : ∀ (σ9 : kn_S) (τ9 : kn_T), kr_Ws σ9 (B + 1000) → kn_Go X ML_law 1775 [(5, .int (nI i)), (4, .ref 134), (3, .ref 133), (2, .ref 128), (1, .ref 0), (0, .retAddr 0)] [] σ9 τ9 z c n Q) : kn_Go X ML_law 1383 [(5, .int (nI i)), (4, .ref 134), (3, .ref 133), (2, .ref 128), (1, .ref 0), (0, .retAddr 0)] [] σ τ z (c + 2) (n + 12) Q := by
  have hin : ∀ j : Nat, j < 5 → vp_in (nI i + nI j) X.1 := fun j hj => by rw [nI_add]; exact vp_in_nI (by omega) hX
  refine k_aload_n 1 dL_law_1383 rfl rfl ?_
  refine k_aload_nR 0 dL_law_1384 rfl rfl ?_
  refine k_iload dL_law_1385 rfl ?_
  refine k_iconst (1) dL_law_1387 (by decide) ?_
  refine k_iadd dL_law_1388 ?_
  refine k_roload dL_law_1389 (by decide) (hin 1 (by decide)) ?_
  refine k_aload_nR 0 dL_law_1390 rfl rfl ?_
  refine k_iload dL_law_1391 rfl ?_
  refine k_iconst (2) dL_law_1393 (by decide) ?_
  refine k_iadd dL_law_1394 ?_
  refine k_roload dL_law_1395 (by decide) (hin 2 (by decide)) ?_
  refine k_aload_nR 0 dL_law_1396 rfl rfl ?_
  refine k_iload dL_law_1397 rfl ?_
  refine k_iconst (3) dL_law_1399 (by decide) ?_
  refine k_iadd dL_law_1400 ?_
  refine k_roload dL_law_1401 (by decide) (hin 3 (by decide)) ?_
  refine k_aload_nR 0 dL_law_1402 rfl rfl ?_
  refine k_iload dL_law_1403 rfl ?_
  refine k_iconst (4) dL_law_1405 (by decide) ?_
  refine k_iadd dL_law_1406 ?_
  refine k_roload dL_law_1407 (by decide) (hin 4 (by decide)) ?_
  refine k_aload_n 3 dL_law_1408 rfl rfl ?_
  refine k_invSH (As := [_, _, _, _, _, _]) dL_law_1409 mm_L_limit wL_L_169 ⟨by decide, by decide⟩ rfl rfl (Nat.le_of_ble_eq_true rfl) (c1 := 2) (n1 := 12) (by omega) (by omega) (cs_limit _ _ _ _ hV W  _ (fun κ v σ1 τ1 h1 hm => ⟨rfl, ?_⟩))
  show kn_Go X ML_law 1412 _ _ σ1 τ1 z (c + 2 - 2) (n + 12 - 12) Q; rw [Nat.add_sub_cancel, Nat.add_sub_cancel]
  refine k_istore (lv' := [(6, _), (5, _), (4, _), (3, _), (2, _), (1, _), (0, _)]) dL_law_1412 (by decide) rfl ?_
  refine k_aload_n 2 dL_law_1414 rfl rfl ?_
  refine k_aload_nR 0 dL_law_1415 rfl rfl ?_
  refine k_iload dL_law_1416 rfl ?_
  refine k_iconst (1) dL_law_1418 (by decide) ?_
  refine k_iadd dL_law_1419 ?_
  refine k_roload dL_law_1420 (by decide) (hin 1 (by decide)) ?_
  refine k_aload_nR 0 dL_law_1421 rfl rfl ?_
  refine k_iload dL_law_1422 rfl ?_
  refine k_iconst (2) dL_law_1424 (by decide) ?_
  refine k_iadd dL_law_1425 ?_
  refine k_roload dL_law_1426 (by decide) (hin 2 (by decide)) ?_
  refine k_aload_nR 0 dL_law_1427 rfl rfl ?_
  refine k_iload dL_law_1428 rfl ?_
  refine k_iconst (3) dL_law_1430 (by decide) ?_
  refine k_iadd dL_law_1431 ?_
  refine k_roload dL_law_1432 (by decide) (hin 3 (by decide)) ?_
  refine k_aload_nR 0 dL_law_1433 rfl rfl ?_
  refine k_iload dL_law_1434 rfl ?_
  refine k_iconst (4) dL_law_1436 (by decide) ?_
  refine k_iadd dL_law_1437 ?_
  refine k_roload dL_law_1438 (by decide) (hin 4 (by decide)) ?_
  refine k_invV (As := [_, _, _, _]) dL_law_1439 mm_X7_limit wL_L_171 ⟨by decide, by decide⟩ hV.2.1.1.1 hV.2.1.1.2 rfl rfl (Nat.le_of_ble_eq_true rfl) (Nat.zero_le _) (Nat.zero_le _) (hm _ (fun b σ2 g1 g2 g3 => ⟨rfl, ?_⟩))
  refine k_istore (lv' := [(7, _), (6, _), (5, _), (4, _), (3, _), (2, _), (1, _), (0, _)]) dL_law_1442 (by decide) rfl ?_
  refine k_aload_n 2 dL_law_1444 rfl rfl ?_
  refine k_invV (As := []) dL_law_1445 mm_X7_thrown wL_L_93 ⟨by decide, by decide⟩ hV.2.1.1.1 hV.2.1.1.2 rfl rfl (Nat.le_of_ble_eq_true rfl) (Nat.zero_le _) (Nat.zero_le _) (m_X7_thrown hV.2.1 ⟨rfl, ?_⟩)
  refine k_iload dL_law_1448 rfl ?_
  rw [g1]
  refine k_icmpeq 1455 dL_law_1450 (by decide) (fun h1450 => ?_) (fun h1450 => ?_)
  · refine k_iload dL_law_1455 rfl ?_
    refine k_ifne 1472 dL_law_1457 (by decide) (fun h1457 => ?_) (fun h1457 => ?_)
    · refine k_goto 1775 dL_law_1472 (by decide) ?_
      refine k_re [5, 4, 3, 2, 1, 0] (lv' := [(5, _), (4, _), (3, _), (2, _), (1, _), (0, _)]) rfl ?_
      exact k _ _ g3
    · refine k_aload_n 3 dL_law_1460 rfl rfl ?_
      refine k_iconst (0) dL_law_1461 (by decide) ?_
      refine k_laload dL_law_1462 hV.2.2.1.1 hV.2.2.1.2 (vp_in_nI (n := 0) (by decide) (by decide)) ?_
      refine k_iload dL_law_1463 rfl ?_
      refine k_i2l dL_law_1465 ?_
      refine k_lcmp dL_law_1466 ?_
      rw [g2 h1457, show τ1 133 (Int32.toNatClampNeg 0) = v.toInt64 from h1 h1457, kr_lcmp]
      refine k_ifeq 1472 dL_law_1467 (by decide) (fun h1467 => ?_) (fun h1467 => ?_)
      · refine k_goto 1775 dL_law_1472 (by decide) ?_
        refine k_re [5, 4, 3, 2, 1, 0] (lv' := [(5, _), (4, _), (3, _), (2, _), (1, _), (0, _)]) rfl ?_
        exact k _ _ g3
      · exact absurd rfl h1467
  · exact absurd rfl h1450

set_option maxRecDepth 100000 in
set_option maxHeartbeats 4000000 in
theorem c_quietAfter {X : kn_X} {σ : kn_S} {τ : kn_T} {z : kn_Z} {B c n i : Nat} {Q : kn_Q} (hV : kr_V z) (W : kr_Ws σ B) (hB : B + 2000 < 16777216) (hi : i + 5 ≤ X.1) (hX : X.1 < 2 ^ 31) (k : ∀ (σ9 : kn_S) (τ9 : kn_T), kr_Ws σ9 (B + 1000) → kn_Go X ML_law 1775 [(5, .int (nI i)), (4, .ref 134), (3, .ref 133), (2, .ref 128), (1, .ref 0), (0, .retAddr 0)] [] σ9 τ9 z c n Q) : kn_Go X ML_law 1475 [(5, .int (nI i)), (4, .ref 134), (3, .ref 133), (2, .ref 128), (1, .ref 0), (0, .retAddr 0)] [] σ τ z (c + 2) (n + 12) Q := by
  have hin : ∀ j : Nat, j < 5 → vp_in (nI i + nI j) X.1 := fun j hj => by rw [nI_add]; exact vp_in_nI (by omega) hX
  refine k_aload_n 1 dL_law_1475 rfl rfl ?_
  refine k_aload_nR 0 dL_law_1476 rfl rfl ?_
  refine k_iload dL_law_1477 rfl ?_
  refine k_iconst (1) dL_law_1479 (by decide) ?_
  refine k_iadd dL_law_1480 ?_
  refine k_roload dL_law_1481 (by decide) (hin 1 (by decide)) ?_
  refine k_aload_nR 0 dL_law_1482 rfl rfl ?_
  refine k_iload dL_law_1483 rfl ?_
  refine k_iconst (2) dL_law_1485 (by decide) ?_
  refine k_iadd dL_law_1486 ?_
  refine k_roload dL_law_1487 (by decide) (hin 2 (by decide)) ?_
  refine k_aload_nR 0 dL_law_1488 rfl rfl ?_
  refine k_iload dL_law_1489 rfl ?_
  refine k_iconst (3) dL_law_1491 (by decide) ?_
  refine k_iadd dL_law_1492 ?_
  refine k_roload dL_law_1493 (by decide) (hin 3 (by decide)) ?_
  refine k_aload_n 3 dL_law_1494 rfl rfl ?_
  refine k_invSH (As := [_, _, _, _, _]) dL_law_1495 mm_L_quietAfter wL_L_172 ⟨by decide, by decide⟩ rfl rfl (Nat.le_of_ble_eq_true rfl) (c1 := 2) (n1 := 12) (by omega) (by omega) (cs_quietAfter _ _ _ hV W (by omega) _ (fun κ v σ1 τ1 h1 hm => ⟨rfl, ?_⟩))
  show kn_Go X ML_law 1498 _ _ σ1 τ1 z (c + 2 - 2) (n + 12 - 12) Q; rw [Nat.add_sub_cancel, Nat.add_sub_cancel]
  refine k_istore (lv' := [(6, _), (5, _), (4, _), (3, _), (2, _), (1, _), (0, _)]) dL_law_1498 (by decide) rfl ?_
  refine k_aload_n 2 dL_law_1500 rfl rfl ?_
  refine k_aload_nR 0 dL_law_1501 rfl rfl ?_
  refine k_iload dL_law_1502 rfl ?_
  refine k_iconst (1) dL_law_1504 (by decide) ?_
  refine k_iadd dL_law_1505 ?_
  refine k_roload dL_law_1506 (by decide) (hin 1 (by decide)) ?_
  refine k_aload_nR 0 dL_law_1507 rfl rfl ?_
  refine k_iload dL_law_1508 rfl ?_
  refine k_iconst (2) dL_law_1510 (by decide) ?_
  refine k_iadd dL_law_1511 ?_
  refine k_roload dL_law_1512 (by decide) (hin 2 (by decide)) ?_
  refine k_aload_nR 0 dL_law_1513 rfl rfl ?_
  refine k_iload dL_law_1514 rfl ?_
  refine k_iconst (3) dL_law_1516 (by decide) ?_
  refine k_iadd dL_law_1517 ?_
  refine k_roload dL_law_1518 (by decide) (hin 3 (by decide)) ?_
  refine k_invV (As := [_, _, _]) dL_law_1519 mm_X7_quietAfter wL_L_174 ⟨by decide, by decide⟩ hV.2.1.1.1 hV.2.1.1.2 rfl rfl (Nat.le_of_ble_eq_true rfl) (Nat.zero_le _) (Nat.zero_le _) (hm _ (fun b σ2 g1 g2 g3 => ⟨rfl, ?_⟩))
  refine k_istore (lv' := [(7, _), (6, _), (5, _), (4, _), (3, _), (2, _), (1, _), (0, _)]) dL_law_1522 (by decide) rfl ?_
  refine k_aload_n 2 dL_law_1524 rfl rfl ?_
  refine k_invV (As := []) dL_law_1525 mm_X7_thrown wL_L_93 ⟨by decide, by decide⟩ hV.2.1.1.1 hV.2.1.1.2 rfl rfl (Nat.le_of_ble_eq_true rfl) (Nat.zero_le _) (Nat.zero_le _) (m_X7_thrown hV.2.1 ⟨rfl, ?_⟩)
  refine k_iload dL_law_1528 rfl ?_
  rw [g1]
  refine k_icmpeq 1535 dL_law_1530 (by decide) (fun h1530 => ?_) (fun h1530 => ?_)
  · refine k_iload dL_law_1535 rfl ?_
    refine k_ifne 1552 dL_law_1537 (by decide) (fun h1537 => ?_) (fun h1537 => ?_)
    · refine k_goto 1775 dL_law_1552 (by decide) ?_
      refine k_re [5, 4, 3, 2, 1, 0] (lv' := [(5, _), (4, _), (3, _), (2, _), (1, _), (0, _)]) rfl ?_
      exact k _ _ g3
    · refine k_aload_n 3 dL_law_1540 rfl rfl ?_
      refine k_iconst (0) dL_law_1541 (by decide) ?_
      refine k_laload dL_law_1542 hV.2.2.1.1 hV.2.2.1.2 (vp_in_nI (n := 0) (by decide) (by decide)) ?_
      refine k_iload dL_law_1543 rfl ?_
      refine k_i2l dL_law_1545 ?_
      refine k_lcmp dL_law_1546 ?_
      rw [g2 h1537, show τ1 133 (Int32.toNatClampNeg 0) = v.toInt64 from h1 h1537, kr_lcmp]
      refine k_ifeq 1552 dL_law_1547 (by decide) (fun h1547 => ?_) (fun h1547 => ?_)
      · refine k_goto 1775 dL_law_1552 (by decide) ?_
        refine k_re [5, 4, 3, 2, 1, 0] (lv' := [(5, _), (4, _), (3, _), (2, _), (1, _), (0, _)]) rfl ?_
        exact k _ _ g3
      · exact absurd rfl h1547
  · exact absurd rfl h1530

set_option maxRecDepth 100000 in
set_option maxHeartbeats 4000000 in
theorem c_lowestOctane {X : kn_X} {σ : kn_S} {τ : kn_T} {z : kn_Z} {B c n i : Nat} {Q : kn_Q} (hV : kr_V z) (W : kr_Ws σ B) (hB : B + 2000 < 16777216) (hi : i + 5 ≤ X.1) (hX : X.1 < 2 ^ 31) (k : ∀ (σ9 : kn_S) (τ9 : kn_T), kr_Ws σ9 (B + 1000) → kn_Go X ML_law 1775 [(5, .int (nI i)), (4, .ref 134), (3, .ref 133), (2, .ref 128), (1, .ref 0), (0, .retAddr 0)] [] σ9 τ9 z c n Q) : kn_Go X ML_law 1555 [(5, .int (nI i)), (4, .ref 134), (3, .ref 133), (2, .ref 128), (1, .ref 0), (0, .retAddr 0)] [] σ τ z (c + 2) (n + 12) Q := by
  have hin : ∀ j : Nat, j < 5 → vp_in (nI i + nI j) X.1 := fun j hj => by rw [nI_add]; exact vp_in_nI (by omega) hX
  refine k_aload_n 1 dL_law_1555 rfl rfl ?_
  refine k_aload_nR 0 dL_law_1556 rfl rfl ?_
  refine k_iload dL_law_1557 rfl ?_
  refine k_iconst (1) dL_law_1559 (by decide) ?_
  refine k_iadd dL_law_1560 ?_
  refine k_roload dL_law_1561 (by decide) (hin 1 (by decide)) ?_
  refine k_aload_nR 0 dL_law_1562 rfl rfl ?_
  refine k_iload dL_law_1563 rfl ?_
  refine k_iconst (2) dL_law_1565 (by decide) ?_
  refine k_iadd dL_law_1566 ?_
  refine k_roload dL_law_1567 (by decide) (hin 2 (by decide)) ?_
  refine k_aload_nR 0 dL_law_1568 rfl rfl ?_
  refine k_iload dL_law_1569 rfl ?_
  refine k_iconst (3) dL_law_1571 (by decide) ?_
  refine k_iadd dL_law_1572 ?_
  refine k_roload dL_law_1573 (by decide) (hin 3 (by decide)) ?_
  refine k_aload_n 3 dL_law_1574 rfl rfl ?_
  refine k_invSH (As := [_, _, _, _, _]) dL_law_1575 mm_L_lowestOctane wL_L_175 ⟨by decide, by decide⟩ rfl rfl (Nat.le_of_ble_eq_true rfl) (c1 := 2) (n1 := 12) (by omega) (by omega) (cs_lowestOctane _ _ _ hV W (by omega) _ (fun κ v σ1 τ1 h1 hm => ⟨rfl, ?_⟩))
  show kn_Go X ML_law 1578 _ _ σ1 τ1 z (c + 2 - 2) (n + 12 - 12) Q; rw [Nat.add_sub_cancel, Nat.add_sub_cancel]
  refine k_istore (lv' := [(6, _), (5, _), (4, _), (3, _), (2, _), (1, _), (0, _)]) dL_law_1578 (by decide) rfl ?_
  refine k_aload_n 2 dL_law_1580 rfl rfl ?_
  refine k_aload_nR 0 dL_law_1581 rfl rfl ?_
  refine k_iload dL_law_1582 rfl ?_
  refine k_iconst (1) dL_law_1584 (by decide) ?_
  refine k_iadd dL_law_1585 ?_
  refine k_roload dL_law_1586 (by decide) (hin 1 (by decide)) ?_
  refine k_aload_nR 0 dL_law_1587 rfl rfl ?_
  refine k_iload dL_law_1588 rfl ?_
  refine k_iconst (2) dL_law_1590 (by decide) ?_
  refine k_iadd dL_law_1591 ?_
  refine k_roload dL_law_1592 (by decide) (hin 2 (by decide)) ?_
  refine k_aload_nR 0 dL_law_1593 rfl rfl ?_
  refine k_iload dL_law_1594 rfl ?_
  refine k_iconst (3) dL_law_1596 (by decide) ?_
  refine k_iadd dL_law_1597 ?_
  refine k_roload dL_law_1598 (by decide) (hin 3 (by decide)) ?_
  refine k_invV (As := [_, _, _]) dL_law_1599 mm_X7_lowestOctane wL_L_177 ⟨by decide, by decide⟩ hV.2.1.1.1 hV.2.1.1.2 rfl rfl (Nat.le_of_ble_eq_true rfl) (Nat.zero_le _) (Nat.zero_le _) (hm _ (fun b σ2 g1 g2 g3 => ⟨rfl, ?_⟩))
  refine k_istore (lv' := [(7, _), (6, _), (5, _), (4, _), (3, _), (2, _), (1, _), (0, _)]) dL_law_1602 (by decide) rfl ?_
  refine k_aload_n 2 dL_law_1604 rfl rfl ?_
  refine k_invV (As := []) dL_law_1605 mm_X7_thrown wL_L_93 ⟨by decide, by decide⟩ hV.2.1.1.1 hV.2.1.1.2 rfl rfl (Nat.le_of_ble_eq_true rfl) (Nat.zero_le _) (Nat.zero_le _) (m_X7_thrown hV.2.1 ⟨rfl, ?_⟩)
  refine k_iload dL_law_1608 rfl ?_
  rw [g1]
  refine k_icmpeq 1615 dL_law_1610 (by decide) (fun h1610 => ?_) (fun h1610 => ?_)
  · refine k_iload dL_law_1615 rfl ?_
    refine k_ifne 1632 dL_law_1617 (by decide) (fun h1617 => ?_) (fun h1617 => ?_)
    · refine k_goto 1775 dL_law_1632 (by decide) ?_
      refine k_re [5, 4, 3, 2, 1, 0] (lv' := [(5, _), (4, _), (3, _), (2, _), (1, _), (0, _)]) rfl ?_
      exact k _ _ g3
    · refine k_aload_n 3 dL_law_1620 rfl rfl ?_
      refine k_iconst (0) dL_law_1621 (by decide) ?_
      refine k_laload dL_law_1622 hV.2.2.1.1 hV.2.2.1.2 (vp_in_nI (n := 0) (by decide) (by decide)) ?_
      refine k_iload dL_law_1623 rfl ?_
      refine k_i2l dL_law_1625 ?_
      refine k_lcmp dL_law_1626 ?_
      rw [g2 h1617, show τ1 133 (Int32.toNatClampNeg 0) = v.toInt64 from h1 h1617, kr_lcmp]
      refine k_ifeq 1632 dL_law_1627 (by decide) (fun h1627 => ?_) (fun h1627 => ?_)
      · refine k_goto 1775 dL_law_1632 (by decide) ?_
        refine k_re [5, 4, 3, 2, 1, 0] (lv' := [(5, _), (4, _), (3, _), (2, _), (1, _), (0, _)]) rfl ?_
        exact k _ _ g3
      · exact absurd rfl h1627
  · exact absurd rfl h1610

set_option maxRecDepth 100000 in
set_option maxHeartbeats 4000000 in
theorem c_append {X : kn_X} {σ : kn_S} {τ : kn_T} {z : kn_Z} {B c n i : Nat} {Q : kn_Q} (hV : kr_V z) (W : kr_Ws σ B) (hB : B + 2000 < 16777216) (hi : i + 5 ≤ X.1) (hX : X.1 < 2 ^ 31) (k : ∀ (σ9 : kn_S) (τ9 : kn_T), kr_Ws σ9 (B + 1000) → kn_Go X ML_law 1775 [(5, .int (nI i)), (4, .ref 134), (3, .ref 133), (2, .ref 128), (1, .ref 0), (0, .retAddr 0)] [] σ9 τ9 z c n Q) : kn_Go X ML_law 1635 [(5, .int (nI i)), (4, .ref 134), (3, .ref 133), (2, .ref 128), (1, .ref 0), (0, .retAddr 0)] [] σ τ z (c + 2) (n + 12) Q := by
  have hin : ∀ j : Nat, j < 5 → vp_in (nI i + nI j) X.1 := fun j hj => by rw [nI_add]; exact vp_in_nI (by omega) hX
  refine k_aload_n 1 dL_law_1635 rfl rfl ?_
  refine k_aload_nR 0 dL_law_1636 rfl rfl ?_
  refine k_iload dL_law_1637 rfl ?_
  refine k_iconst (1) dL_law_1639 (by decide) ?_
  refine k_iadd dL_law_1640 ?_
  refine k_roload dL_law_1641 (by decide) (hin 1 (by decide)) ?_
  refine k_aload_n 3 dL_law_1642 rfl rfl ?_
  refine k_invSH (As := [_, _, _]) dL_law_1643 mm_L_append wL_L_178 ⟨by decide, by decide⟩ rfl rfl (Nat.le_of_ble_eq_true rfl) (c1 := 2) (n1 := 12) (by omega) (by omega) (cs_append _ hV W  _ (fun κ v σ1 τ1 h1 hm => ⟨rfl, ?_⟩))
  show kn_Go X ML_law 1646 _ _ σ1 τ1 z (c + 2 - 2) (n + 12 - 12) Q; rw [Nat.add_sub_cancel, Nat.add_sub_cancel]
  refine k_istore (lv' := [(6, _), (5, _), (4, _), (3, _), (2, _), (1, _), (0, _)]) dL_law_1646 (by decide) rfl ?_
  refine k_aload_n 2 dL_law_1648 rfl rfl ?_
  refine k_aload_nR 0 dL_law_1649 rfl rfl ?_
  refine k_iload dL_law_1650 rfl ?_
  refine k_iconst (1) dL_law_1652 (by decide) ?_
  refine k_iadd dL_law_1653 ?_
  refine k_roload dL_law_1654 (by decide) (hin 1 (by decide)) ?_
  refine k_invV (As := [_]) dL_law_1655 mm_X7_append wL_L_180 ⟨by decide, by decide⟩ hV.2.1.1.1 hV.2.1.1.2 rfl rfl (Nat.le_of_ble_eq_true rfl) (Nat.zero_le _) (Nat.zero_le _) (hm _ (fun b σ2 g1 g2 g3 => ⟨rfl, ?_⟩))
  refine k_istore (lv' := [(7, _), (6, _), (5, _), (4, _), (3, _), (2, _), (1, _), (0, _)]) dL_law_1658 (by decide) rfl ?_
  refine k_aload_n 2 dL_law_1660 rfl rfl ?_
  refine k_invV (As := []) dL_law_1661 mm_X7_thrown wL_L_93 ⟨by decide, by decide⟩ hV.2.1.1.1 hV.2.1.1.2 rfl rfl (Nat.le_of_ble_eq_true rfl) (Nat.zero_le _) (Nat.zero_le _) (m_X7_thrown hV.2.1 ⟨rfl, ?_⟩)
  refine k_iload dL_law_1664 rfl ?_
  rw [g1]
  refine k_icmpeq 1671 dL_law_1666 (by decide) (fun h1666 => ?_) (fun h1666 => ?_)
  · refine k_iload dL_law_1671 rfl ?_
    refine k_ifne 1688 dL_law_1673 (by decide) (fun h1673 => ?_) (fun h1673 => ?_)
    · refine k_goto 1775 dL_law_1688 (by decide) ?_
      refine k_re [5, 4, 3, 2, 1, 0] (lv' := [(5, _), (4, _), (3, _), (2, _), (1, _), (0, _)]) rfl ?_
      exact k _ _ g3
    · refine k_aload_n 3 dL_law_1676 rfl rfl ?_
      refine k_iconst (0) dL_law_1677 (by decide) ?_
      refine k_laload dL_law_1678 hV.2.2.1.1 hV.2.2.1.2 (vp_in_nI (n := 0) (by decide) (by decide)) ?_
      refine k_iload dL_law_1679 rfl ?_
      refine k_i2l dL_law_1681 ?_
      refine k_lcmp dL_law_1682 ?_
      rw [g2 h1673, show τ1 133 (Int32.toNatClampNeg 0) = v.toInt64 from h1 h1673, kr_lcmp]
      refine k_ifeq 1688 dL_law_1683 (by decide) (fun h1683 => ?_) (fun h1683 => ?_)
      · refine k_goto 1775 dL_law_1688 (by decide) ?_
        refine k_re [5, 4, 3, 2, 1, 0] (lv' := [(5, _), (4, _), (3, _), (2, _), (1, _), (0, _)]) rfl ?_
        exact k _ _ g3
      · exact absurd rfl h1683
  · exact absurd rfl h1666

set_option maxRecDepth 100000 in
set_option maxHeartbeats 4000000 in
theorem c_clearText {X : kn_X} {σ : kn_S} {τ : kn_T} {z : kn_Z} {B c n i : Nat} {Q : kn_Q} (hV : kr_V z) (W : kr_Ws σ B) (hB : B + 2000 < 16777216) (hi : i + 5 ≤ X.1) (hX : X.1 < 2 ^ 31) (k : ∀ (σ9 : kn_S) (τ9 : kn_T), kr_Ws σ9 (B + 1000) → kn_Go X ML_law 1775 [(5, .int (nI i)), (4, .ref 134), (3, .ref 133), (2, .ref 128), (1, .ref 0), (0, .retAddr 0)] [] σ9 τ9 z c n Q) : kn_Go X ML_law 1691 [(5, .int (nI i)), (4, .ref 134), (3, .ref 133), (2, .ref 128), (1, .ref 0), (0, .retAddr 0)] [] σ τ z (c + 2) (n + 12) Q := by
  have hin : ∀ j : Nat, j < 5 → vp_in (nI i + nI j) X.1 := fun j hj => by rw [nI_add]; exact vp_in_nI (by omega) hX
  refine k_aload_n 1 dL_law_1691 rfl rfl ?_
  refine k_invV (As := []) dL_law_1692 mm_X6_clearText wL_L_181 ⟨by decide, by decide⟩ hV.1.1.1 hV.1.1.2 rfl rfl (Nat.le_of_ble_eq_true rfl) (Nat.zero_le _) (Nat.zero_le _) (cn_clearText hV W  _ (fun v σ1 hm => ⟨rfl, ?_⟩))
  refine k_aload_n 2 dL_law_1695 rfl rfl ?_
  refine k_invV (As := []) dL_law_1696 mm_X7_clearText wL_L_184 ⟨by decide, by decide⟩ hV.2.1.1.1 hV.2.1.1.2 rfl rfl (Nat.le_of_ble_eq_true rfl) (Nat.zero_le _) (Nat.zero_le _) (hm _ (fun σ2 g3 => ⟨rfl, ?_⟩))
  refine k_icmpeq 1775 dL_law_1699 (by decide) (fun h1699 => ?_) (fun h1699 => ?_)
  · exact k_room (Nat.le_add_right _ _) (Nat.le_add_right _ _) (k _ _ g3)
  · exact absurd rfl h1699

set_option maxRecDepth 100000 in
set_option maxHeartbeats 4000000 in
theorem c_replay {X : kn_X} {σ : kn_S} {τ : kn_T} {z : kn_Z} {B c n i : Nat} {Q : kn_Q} (hV : kr_V z) (W : kr_Ws σ B) (hB : B + 2000 < 16777216) (hi : i + 5 ≤ X.1) (hX : X.1 < 2 ^ 31) (k : ∀ (σ9 : kn_S) (τ9 : kn_T), kr_Ws σ9 (B + 1000) → kn_Go X ML_law 1775 [(5, .int (nI i)), (4, .ref 134), (3, .ref 133), (2, .ref 128), (1, .ref 0), (0, .retAddr 0)] [] σ9 τ9 z c n Q) : kn_Go X ML_law 1704 [(5, .int (nI i)), (4, .ref 134), (3, .ref 133), (2, .ref 128), (1, .ref 0), (0, .retAddr 0)] [] σ τ z (c + 2) (n + 12) Q := by
  have hin : ∀ j : Nat, j < 5 → vp_in (nI i + nI j) X.1 := fun j hj => by rw [nI_add]; exact vp_in_nI (by omega) hX
  refine k_aload_n 1 dL_law_1704 rfl rfl ?_
  refine k_invV (As := []) dL_law_1705 mm_X6_replay wL_L_185 ⟨by decide, by decide⟩ hV.1.1.1 hV.1.1.2 rfl rfl (Nat.le_of_ble_eq_true rfl) (Nat.zero_le _) (Nat.zero_le _) (cn_replay hV W (by omega) _ (fun v σ1 hm => ⟨rfl, ?_⟩))
  refine k_aload_n 2 dL_law_1708 rfl rfl ?_
  refine k_invV (As := []) dL_law_1709 mm_X7_replay wL_L_188 ⟨by decide, by decide⟩ hV.2.1.1.1 hV.2.1.1.2 rfl rfl (Nat.le_of_ble_eq_true rfl) (Nat.zero_le _) (Nat.zero_le _) (hm _ (fun σ2 g3 => ⟨rfl, ?_⟩))
  refine k_icmpeq 1775 dL_law_1712 (by decide) (fun h1712 => ?_) (fun h1712 => ?_)
  · exact k_room (Nat.le_add_right _ _) (Nat.le_add_right _ _) (k _ _ g3)
  · exact absurd rfl h1712

set_option maxRecDepth 100000 in
set_option maxHeartbeats 4000000 in
theorem c_undo {X : kn_X} {σ : kn_S} {τ : kn_T} {z : kn_Z} {B c n i : Nat} {Q : kn_Q} (hV : kr_V z) (W : kr_Ws σ B) (hB : B + 2000 < 16777216) (hi : i + 5 ≤ X.1) (hX : X.1 < 2 ^ 31) (k : ∀ (σ9 : kn_S) (τ9 : kn_T), kr_Ws σ9 (B + 1000) → kn_Go X ML_law 1775 [(5, .int (nI i)), (4, .ref 134), (3, .ref 133), (2, .ref 128), (1, .ref 0), (0, .retAddr 0)] [] σ9 τ9 z c n Q) : kn_Go X ML_law 1717 [(5, .int (nI i)), (4, .ref 134), (3, .ref 133), (2, .ref 128), (1, .ref 0), (0, .retAddr 0)] [] σ τ z (c + 2) (n + 12) Q := by
  have hin : ∀ j : Nat, j < 5 → vp_in (nI i + nI j) X.1 := fun j hj => by rw [nI_add]; exact vp_in_nI (by omega) hX
  refine k_aload_n 1 dL_law_1717 rfl rfl ?_
  refine k_aload_n 3 dL_law_1718 rfl rfl ?_
  refine k_invSH (As := [_, _]) dL_law_1719 mm_L_undo wL_L_189 ⟨by decide, by decide⟩ rfl rfl (Nat.le_of_ble_eq_true rfl) (c1 := 2) (n1 := 12) (by omega) (by omega) (cs_undo  hV W  _ (fun κ v σ1 τ1 h1 hm => ⟨rfl, ?_⟩))
  show kn_Go X ML_law 1722 _ _ σ1 τ1 z (c + 2 - 2) (n + 12 - 12) Q; rw [Nat.add_sub_cancel, Nat.add_sub_cancel]
  refine k_istore (lv' := [(6, _), (5, _), (4, _), (3, _), (2, _), (1, _), (0, _)]) dL_law_1722 (by decide) rfl ?_
  refine k_aload_n 2 dL_law_1724 rfl rfl ?_
  refine k_invV (As := []) dL_law_1725 mm_X7_undo wL_L_192 ⟨by decide, by decide⟩ hV.2.1.1.1 hV.2.1.1.2 rfl rfl (Nat.le_of_ble_eq_true rfl) (Nat.zero_le _) (Nat.zero_le _) (hm _ (fun b σ2 g1 g2 g3 => ⟨rfl, ?_⟩))
  refine k_istore (lv' := [(7, _), (6, _), (5, _), (4, _), (3, _), (2, _), (1, _), (0, _)]) dL_law_1728 (by decide) rfl ?_
  refine k_aload_n 2 dL_law_1730 rfl rfl ?_
  refine k_invV (As := []) dL_law_1731 mm_X7_thrown wL_L_93 ⟨by decide, by decide⟩ hV.2.1.1.1 hV.2.1.1.2 rfl rfl (Nat.le_of_ble_eq_true rfl) (Nat.zero_le _) (Nat.zero_le _) (m_X7_thrown hV.2.1 ⟨rfl, ?_⟩)
  refine k_iload dL_law_1734 rfl ?_
  rw [g1]
  refine k_icmpeq 1741 dL_law_1736 (by decide) (fun h1736 => ?_) (fun h1736 => ?_)
  · refine k_iload dL_law_1741 rfl ?_
    refine k_ifne 1758 dL_law_1743 (by decide) (fun h1743 => ?_) (fun h1743 => ?_)
    · refine k_goto 1775 dL_law_1758 (by decide) ?_
      refine k_re [5, 4, 3, 2, 1, 0] (lv' := [(5, _), (4, _), (3, _), (2, _), (1, _), (0, _)]) rfl ?_
      exact k _ _ g3
    · refine k_aload_n 3 dL_law_1746 rfl rfl ?_
      refine k_iconst (0) dL_law_1747 (by decide) ?_
      refine k_laload dL_law_1748 hV.2.2.1.1 hV.2.2.1.2 (vp_in_nI (n := 0) (by decide) (by decide)) ?_
      refine k_iload dL_law_1749 rfl ?_
      refine k_i2l dL_law_1751 ?_
      refine k_lcmp dL_law_1752 ?_
      rw [g2 h1743, show τ1 133 (Int32.toNatClampNeg 0) = v.toInt64 from h1 h1743, kr_lcmp]
      refine k_ifeq 1758 dL_law_1753 (by decide) (fun h1753 => ?_) (fun h1753 => ?_)
      · refine k_goto 1775 dL_law_1758 (by decide) ?_
        refine k_re [5, 4, 3, 2, 1, 0] (lv' := [(5, _), (4, _), (3, _), (2, _), (1, _), (0, _)]) rfl ?_
        exact k _ _ g3
      · exact absurd rfl h1753
  · exact absurd rfl h1736

set_option maxRecDepth 100000 in
set_option maxHeartbeats 4000000 in
theorem c_digest {X : kn_X} {σ : kn_S} {τ : kn_T} {z : kn_Z} {B c n i : Nat} {Q : kn_Q} (hV : kr_V z) (W : kr_Ws σ B) (hB : B + 2000 < 16777216) (hi : i + 5 ≤ X.1) (hX : X.1 < 2 ^ 31) (k : ∀ (σ9 : kn_S) (τ9 : kn_T), kr_Ws σ9 (B + 1000) → kn_Go X ML_law 1775 [(5, .int (nI i)), (4, .ref 134), (3, .ref 133), (2, .ref 128), (1, .ref 0), (0, .retAddr 0)] [] σ9 τ9 z c n Q) : kn_Go X ML_law 1761 [(5, .int (nI i)), (4, .ref 134), (3, .ref 133), (2, .ref 128), (1, .ref 0), (0, .retAddr 0)] [] σ τ z (c + 2) (n + 12) Q := by
  have hin : ∀ j : Nat, j < 5 → vp_in (nI i + nI j) X.1 := fun j hj => by rw [nI_add]; exact vp_in_nI (by omega) hX
  refine k_aload_n 1 dL_law_1761 rfl rfl ?_
  refine k_invV (As := []) dL_law_1762 mm_X6_digest wL_L_193 ⟨by decide, by decide⟩ hV.1.1.1 hV.1.1.2 rfl rfl (Nat.le_of_ble_eq_true rfl) (Nat.zero_le _) (Nat.zero_le _) (cn_digest hV W (by omega) _ (fun v σ1 hm => ⟨rfl, ?_⟩))
  refine k_aload_n 2 dL_law_1765 rfl rfl ?_
  refine k_invV (As := []) dL_law_1766 mm_X7_digest wL_L_197 ⟨by decide, by decide⟩ hV.2.1.1.1 hV.2.1.1.2 rfl rfl (Nat.le_of_ble_eq_true rfl) (Nat.zero_le _) (Nat.zero_le _) (hm _ (fun σ2 τ2 g3 => ⟨rfl, ?_⟩))
  refine k_lcmp dL_law_1769 ?_
  rw [kr_lcmp]
  refine k_ifeq 1775 dL_law_1770 (by decide) (fun h1770 => ?_) (fun h1770 => ?_)
  · exact k_room (Nat.le_add_right _ _) (Nat.le_add_right _ _) (k _ _ g3)
  · exact absurd rfl h1770

