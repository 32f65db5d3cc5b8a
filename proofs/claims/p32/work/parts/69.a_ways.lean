-- the law's seven ways
/-- the law's own method, with the eleven places that it has -/
abbrev ML_lawK : kn_M := (yL_law, cL_law, 11, some .boolean, [], 11, 232)
theorem kw_setOk {j v : Nat} (hj : j < 8) (hv : v < 2 ^ 31) (h1 : (kn_least j).toInt ≤ (v : Int)) (h2 : (v : Int) ≤ (kn_most j).toInt) : ¬ kf_isSetting (nI j) (nI v) = 0 := by
  unfold kf_isSetting
  rw [if_neg (nI_pos (by omega)), if_neg (show ¬ (8 : Int32) ≤ nI j from nI_ge (a := j) (b := 8) hj (by decide)), nI_clamp (by omega)]
  unfold kf_within
  rw [if_neg (by rw [Int32.lt_iff_toInt_lt, nI_toInt hv]; omega), if_neg (by rw [Int32.lt_iff_toInt_lt, nI_toInt hv]; omega)]
  decide
theorem kw_set0 {y : Nat} (h : nI (y % 8) = 0) : ¬ kf_isSetting (nI (y % 8)) (nI (16 + y % 100)) = 0 := by
  have e : y % 8 = 0 := (nI_eq (b := 0) (by omega) (by decide)).mp h
  rw [e]
  have a1 : (kn_least 0).toInt = 16 ∧ (kn_most 0).toInt = 128 := by decide
  exact kw_setOk (by decide) (by omega) (by omega) (by omega)
theorem kw_set3 {y : Nat} (h : nI (y % 8) = 3) : ¬ kf_isSetting (nI (y % 8)) (nI (20 + y % 181)) = 0 := by
  have e : y % 8 = 3 := (nI_eq (b := 3) (by omega) (by decide)).mp h
  rw [e]
  have a1 : (kn_least 3).toInt = 20 ∧ (kn_most 3).toInt = 200 := by decide
  exact kw_setOk (by decide) (by omega) (by omega) (by omega)
theorem kw_set1 {y : Nat} (h0 : ¬ nI (y % 8) = 0) (h3 : ¬ nI (y % 8) = 3) : ¬ kf_isSetting (nI (y % 8)) (nI (1 + y % 50)) = 0 := by
  have n0 : ¬ y % 8 = 0 := fun q => h0 (by rw [q]; rfl)
  have n3 : ¬ y % 8 = 3 := fun q => h3 (by rw [q]; rfl)
  have : y % 8 = 1 ∨ y % 8 = 2 ∨ y % 8 = 4 ∨ y % 8 = 5 ∨ y % 8 = 6 ∨ y % 8 = 7 := by omega
  have a1 : (kn_least 1).toInt = 1 ∧ (kn_most 1).toInt = 50 := by decide
  have a2 : (kn_least 2).toInt = 1 ∧ (kn_most 2).toInt = 200 := by decide
  have a4 : (kn_least 4).toInt = 0 ∧ (kn_most 4).toInt = 200 := by decide
  have a5 : (kn_least 5).toInt = 1 ∧ (kn_most 5).toInt = 500 := by decide
  have a6 : (kn_least 6).toInt = 0 ∧ (kn_most 6).toInt = 1000 := by decide
  have a7 : (kn_least 7).toInt = 0 ∧ (kn_most 7).toInt = 100 := by decide
  rcases this with e | e | e | e | e | e <;> rw [e] <;> exact kw_setOk (by decide) (by omega) (by omega) (by omega)
theorem kw_setP {g : Nat → Int32} {F K j : Nat} (h : kw_J0 g F K) (hj : j < 8) : ¬ g j < 0 := by
  obtain ⟨v, e, h1, h2⟩ := kw_set h hj
  have : (kn_most j).toInt ≤ 1000 := by
    have : j = 0 ∨ j = 1 ∨ j = 2 ∨ j = 3 ∨ j = 4 ∨ j = 5 ∨ j = 6 ∨ j = 7 := by omega
    rcases this with rfl | rfl | rfl | rfl | rfl | rfl | rfl | rfl <;> decide
  rw [e]; exact nI_pos (by omega)
theorem kw_taP {g : Nat → Int32} {m fi cl : Nat} {e : Int32} (hI : kr_I g m fi fi) (hfi : fi < 2 ^ 31) : ¬ kg_ta (kx g) m cl e < 0 := by
  rcases kw_ta (cl := cl) (e := e) hI hfi with h | h <;> rw [h]
  · decide
  · split <;> decide
theorem kw_gDP (m cl : Nat) (x y w : Int32) (g : Nat → Int32) (j : Nat) (hj : j < 2 ^ 31) : ¬ (gD m cl x y w g j).1 < 0 := by
  obtain ⟨c, h1, h2⟩ := gD_le m cl x y w g j
  rw [h2]; exact nI_pos (by omega)

set_option maxRecDepth 100000 in
set_option maxHeartbeats 4000000 in
theorem c_set {X : kn_X} {σ : kn_S} {τ : kn_T} {z : kn_Z} {B m fi t y sp lo c n : Nat} {g : Nat → Int32} {l : List kw_G} {x : Int32} {p : Int64} {Q : kn_Q} (hK : kn_isK z) (W : kw_W σ B g m fi l) (hB : B + 10000 < 1000000000) (hy : y < 100000) (h1 : 500 ≤ sp) (h2 : sp ≤ 7000) (h3 : lo ≤ 100) (k : ∀ (v : Int32) (σ8 : kn_S) (g8 : Nat → Int32) (m8 f8 : Nat) (l8 : List kw_G), ¬ v < 0 → kw_W σ8 (B + 1000) g8 m8 f8 ((g, m, fi) :: l8) → kn_Go X ML_lawK 372 [(10, .int v), (8, .long p), (7, .int (nI lo)), (6, .int (nI sp)), (5, .int (nI y)), (4, .int x), (3, .int (nI t)), (2, .int 1), (1, .ref 0), (0, .retAddr 0)] [] σ8 τ z c n Q) : kn_Go X ML_lawK 156 [(10, .int 0), (8, .long p), (7, .int (nI lo)), (6, .int (nI sp)), (5, .int (nI y)), (4, .int x), (3, .int (nI t)), (2, .int 1), (1, .ref 0), (0, .retAddr 0)] [] σ τ z (c + 2) (n + 12) Q := by
  have W0 := W
  obtain ⟨⟨h, hfi, hJ⟩, -⟩ := W0
  have hop := kw_op h1 h2 h3
  obtain ⟨cl, hce, hcl⟩ := kr_cell hop
  refine k_aload_n 1 dL_law_156 rfl rfl ?_
  refine k_iload dL_law_157 rfl ?_
  refine k_bipush (8) dL_law_159 (by decide) ?_
  refine k_irem dL_law_161 (by decide) ?_
  refine k_iload dL_law_162 rfl ?_
  refine k_bipush (8) dL_law_164 (by decide) ?_
  refine k_irem dL_law_166 (by decide) ?_
  rw [show nI y - nI y / 8 * 8 = nI (y % 8) from kw_mod_ (d := 8) (by omega) (by decide) (by decide)]
  refine k_ifne 181 dL_law_167 (by decide) (fun h167 => ?_) (fun h167 => ?_)
  · refine k_iload dL_law_181 rfl ?_
    refine k_bipush (8) dL_law_183 (by decide) ?_
    refine k_irem dL_law_185 (by decide) ?_
    rw [show nI y - nI y / 8 * 8 = nI (y % 8) from kw_mod_ (d := 8) (by omega) (by decide) (by decide)]
    refine k_iconst (3) dL_law_186 (by decide) ?_
    refine k_icmpne 202 dL_law_187 (by decide) (fun h187 => ?_) (fun h187 => ?_)
    · refine k_iconst (1) dL_law_202 (by decide) ?_
      refine k_iload dL_law_203 rfl ?_
      refine k_bipush (50) dL_law_205 (by decide) ?_
      refine k_irem dL_law_207 (by decide) ?_
      rw [show nI y - nI y / 50 * 50 = nI (y % 50) from kw_mod_ (d := 50) (by omega) (by decide) (by decide)]
      refine k_iadd dL_law_208 ?_
      try rw [show (1 : Int32) + nI (y % 50) = nI (1 + y % 50) from nI_add 1 _]
      refine k_invSH2 (c) (n) (As := [_, _, _]) dL_law_209 mm_L_set wL_L_121 ⟨by decide, by decide⟩ rfl rfl (Nat.le_of_ble_eq_true rfl) (by omega) (by omega) (cw_set hK W (show y % 8 < 8 by omega) (by first | exact kw_set0 h167 | exact kw_set3 h187 | exact kw_set1 h167 h187) (fun σ1 W1 => ⟨rfl, ?_⟩))
      have hv9 : ¬ g (y % 8) < 0 := kw_setP hJ.1 (by omega)
      refine k_istore (lv' := [(10, _), (8, _), (7, _), (6, _), (5, _), (4, _), (3, _), (2, _), (1, _), (0, _)]) dL_law_212 (by decide) rfl ?_
      refine k_goto 372 dL_law_214 (by decide) ?_
      exact k_room (by omega) (by omega) (k _ _ _ _ _ _ (hv9) (W1.to (by omega) (fun _ _ _ _ => rfl)))
    · refine k_bipush (20) dL_law_190 (by decide) ?_
      refine k_iload dL_law_192 rfl ?_
      refine k_sipush (181) dL_law_194 (by decide) ?_
      refine k_irem dL_law_197 (by decide) ?_
      rw [show nI y - nI y / 181 * 181 = nI (y % 181) from kw_mod_ (d := 181) (by omega) (by decide) (by decide)]
      refine k_iadd dL_law_198 ?_
      rw [show (20 : Int32) + nI (y % 181) = nI (20 + y % 181) from nI_add 20 _]
      refine k_goto 209 dL_law_199 (by decide) ?_
      try rw [show (1 : Int32) + nI (y % 50) = nI (1 + y % 50) from nI_add 1 _]
      refine k_invSH2 (c) (n) (As := [_, _, _]) dL_law_209 mm_L_set wL_L_121 ⟨by decide, by decide⟩ rfl rfl (Nat.le_of_ble_eq_true rfl) (by omega) (by omega) (cw_set hK W (show y % 8 < 8 by omega) (by first | exact kw_set0 h167 | exact kw_set3 h187 | exact kw_set1 h167 h187) (fun σ1 W1 => ⟨rfl, ?_⟩))
      have hv9 : ¬ g (y % 8) < 0 := kw_setP hJ.1 (by omega)
      refine k_istore (lv' := [(10, _), (8, _), (7, _), (6, _), (5, _), (4, _), (3, _), (2, _), (1, _), (0, _)]) dL_law_212 (by decide) rfl ?_
      refine k_goto 372 dL_law_214 (by decide) ?_
      exact k_room (by omega) (by omega) (k _ _ _ _ _ _ (hv9) (W1.to (by omega) (fun _ _ _ _ => rfl)))
  · refine k_bipush (16) dL_law_170 (by decide) ?_
    refine k_iload dL_law_172 rfl ?_
    refine k_bipush (100) dL_law_174 (by decide) ?_
    refine k_irem dL_law_176 (by decide) ?_
    rw [show nI y - nI y / 100 * 100 = nI (y % 100) from kw_mod_ (d := 100) (by omega) (by decide) (by decide)]
    refine k_iadd dL_law_177 ?_
    rw [show (16 : Int32) + nI (y % 100) = nI (16 + y % 100) from nI_add 16 _]
    refine k_goto 209 dL_law_178 (by decide) ?_
    try rw [show (1 : Int32) + nI (y % 50) = nI (1 + y % 50) from nI_add 1 _]
    refine k_invSH2 (c) (n) (As := [_, _, _]) dL_law_209 mm_L_set wL_L_121 ⟨by decide, by decide⟩ rfl rfl (Nat.le_of_ble_eq_true rfl) (by omega) (by omega) (cw_set hK W (show y % 8 < 8 by omega) (by first | exact kw_set0 h167 | exact kw_set3 h187 | exact kw_set1 h167 h187) (fun σ1 W1 => ⟨rfl, ?_⟩))
    have hv9 : ¬ g (y % 8) < 0 := kw_setP hJ.1 (by omega)
    refine k_istore (lv' := [(10, _), (8, _), (7, _), (6, _), (5, _), (4, _), (3, _), (2, _), (1, _), (0, _)]) dL_law_212 (by decide) rfl ?_
    refine k_goto 372 dL_law_214 (by decide) ?_
    exact k_room (by omega) (by omega) (k _ _ _ _ _ _ (hv9) (W1.to (by omega) (fun _ _ _ _ => rfl)))

set_option maxRecDepth 100000 in
set_option maxHeartbeats 4000000 in
theorem c_teach {X : kn_X} {σ : kn_S} {τ : kn_T} {z : kn_Z} {B m fi t y sp lo c n : Nat} {g : Nat → Int32} {l : List kw_G} {x : Int32} {p : Int64} {Q : kn_Q} (hK : kn_isK z) (W : kw_W σ B g m fi l) (hB : B + 10000 < 1000000000) (hy : y < 100000) (h1 : 500 ≤ sp) (h2 : sp ≤ 7000) (h3 : lo ≤ 100) (k : ∀ (v : Int32) (σ8 : kn_S) (g8 : Nat → Int32) (m8 f8 : Nat) (l8 : List kw_G), ¬ v < 0 → kw_W σ8 (B + 1000) g8 m8 f8 ((g, m, fi) :: l8) → kn_Go X ML_lawK 372 [(10, .int v), (8, .long p), (7, .int (nI lo)), (6, .int (nI sp)), (5, .int (nI y)), (4, .int x), (3, .int (nI t)), (2, .int 1), (1, .ref 0), (0, .retAddr 0)] [] σ8 τ z c n Q) : kn_Go X ML_lawK 217 [(10, .int 0), (8, .long p), (7, .int (nI lo)), (6, .int (nI sp)), (5, .int (nI y)), (4, .int x), (3, .int (nI t)), (2, .int 1), (1, .ref 0), (0, .retAddr 0)] [] σ τ z (c + 2) (n + 12) Q := by
  have W0 := W
  obtain ⟨⟨h, hfi, hJ⟩, -⟩ := W0
  have hop := kw_op h1 h2 h3
  obtain ⟨cl, hce, hcl⟩ := kr_cell hop
  refine k_aload_n 1 dL_law_217 rfl rfl ?_
  refine k_iload dL_law_218 rfl ?_
  refine k_bipush (6) dL_law_220 (by decide) ?_
  refine k_irem dL_law_222 (by decide) ?_
  rw [show nI y - nI y / 6 * 6 = nI (y % 6) from kw_mod_ (d := 6) (by omega) (by decide) (by decide)]
  refine k_iload dL_law_223 rfl ?_
  refine k_bipush (6) dL_law_225 (by decide) ?_
  refine k_idiv dL_law_227 (by decide) ?_
  rw [show nI y / 6 = nI (y / 6) from kw_div (d := 6) (by omega) (by decide) (by decide)]
  refine k_iconst (4) dL_law_228 (by decide) ?_
  refine k_irem dL_law_229 (by decide) ?_
  rw [show nI (y / 6) - nI (y / 6) / 4 * 4 = nI ((y / 6) % 4) from kw_mod_ (d := 4) (by omega) (by decide) (by decide)]
  refine k_iload dL_law_230 rfl ?_
  refine k_bipush (24) dL_law_232 (by decide) ?_
  refine k_idiv dL_law_234 (by decide) ?_
  rw [show nI y / 24 = nI (y / 24) from kw_div (d := 24) (by omega) (by decide) (by decide)]
  refine k_bipush (101) dL_law_235 (by decide) ?_
  refine k_irem dL_law_237 (by decide) ?_
  rw [show nI (y / 24) - nI (y / 24) / 101 * 101 = nI ((y / 24) % 101) from kw_mod_ (d := 101) (by omega) (by decide) (by decide)]
  refine k_invSH2 (c) (n) (As := [_, _, _, _]) dL_law_238 mm_L_teach wL_L_123 ⟨by decide, by decide⟩ rfl rfl (Nat.le_of_ble_eq_true rfl) (by omega) (by omega) (cw_teach hK W (show y % 6 ≤ 5 by omega) (show y / 6 % 4 ≤ 3 by omega) (show y / 24 % 101 ≤ 100 by omega) (fun σ1 W1 => ⟨rfl, ?_⟩))
  have hv9 : ¬ g (49 + (4 * (y % 6) + y / 6 % 4)) < 0 := kw_ge0 (h.1.2.2.2.2.2.2.2.2.1 (4 * (y % 6) + y / 6 % 4) (by omega)) (by decide)
  refine k_istore (lv' := [(10, _), (8, _), (7, _), (6, _), (5, _), (4, _), (3, _), (2, _), (1, _), (0, _)]) dL_law_241 (by decide) rfl ?_
  refine k_goto 372 dL_law_243 (by decide) ?_
  exact k_room (by omega) (by omega) (k _ _ _ _ _ _ (hv9) (W1.to (by omega) (fun _ _ _ _ => rfl)))

set_option maxRecDepth 100000 in
set_option maxHeartbeats 4000000 in
theorem c_break {X : kn_X} {σ : kn_S} {τ : kn_T} {z : kn_Z} {B m fi t y sp lo c n : Nat} {g : Nat → Int32} {l : List kw_G} {x : Int32} {p : Int64} {Q : kn_Q} (hK : kn_isK z) (W : kw_W σ B g m fi l) (hB : B + 10000 < 1000000000) (hy : y < 100000) (h1 : 500 ≤ sp) (h2 : sp ≤ 7000) (h3 : lo ≤ 100) (k : ∀ (v : Int32) (σ8 : kn_S) (g8 : Nat → Int32) (m8 f8 : Nat) (l8 : List kw_G), ¬ v < 0 → kw_W σ8 (B + 1000) g8 m8 f8 ((g, m, fi) :: l8) → kn_Go X ML_lawK 372 [(10, .int v), (8, .long p), (7, .int (nI lo)), (6, .int (nI sp)), (5, .int (nI y)), (4, .int x), (3, .int (nI t)), (2, .int 1), (1, .ref 0), (0, .retAddr 0)] [] σ8 τ z c n Q) : kn_Go X ML_lawK 246 [(10, .int 0), (8, .long p), (7, .int (nI lo)), (6, .int (nI sp)), (5, .int (nI y)), (4, .int x), (3, .int (nI t)), (2, .int 1), (1, .ref 0), (0, .retAddr 0)] [] σ τ z (c + 2) (n + 12) Q := by
  have W0 := W
  obtain ⟨⟨h, hfi, hJ⟩, -⟩ := W0
  have hop := kw_op h1 h2 h3
  obtain ⟨cl, hce, hcl⟩ := kr_cell hop
  refine k_aload_n 1 dL_law_246 rfl rfl ?_
  refine k_iload dL_law_247 rfl ?_
  refine k_iconst (1) dL_law_249 (by decide) ?_
  refine k_iand dL_law_250 ?_
  refine k_ifne 258 dL_law_251 (by decide) (fun h251 => ?_) (fun h251 => ?_)
  · refine k_iconst (0) dL_law_258 (by decide) ?_
    refine k_invV (As := [_]) dL_law_259 mm_X6_breakSensor wL_L_183 ⟨by decide, by decide⟩ hK.1.1 hK.1.2 rfl rfl (Nat.le_of_ble_eq_true rfl) (Nat.zero_le _) (Nat.zero_le _) (cw_break hK W (by first | exact Or.inl rfl | exact Or.inr rfl) (fun σ1 W1 => ⟨rfl, ?_⟩))
    refine k_ifeq 269 dL_law_262 (by decide) (fun h262 => ?_) (fun h262 => ?_)
    · refine k_iconst (0) dL_law_269 (by decide) ?_
      refine k_istore (lv' := [(10, _), (8, _), (7, _), (6, _), (5, _), (4, _), (3, _), (2, _), (1, _), (0, _)]) dL_law_270 (by decide) rfl ?_
      refine k_goto 372 dL_law_272 (by decide) ?_
      exact k_room (by omega) (by omega) (k _ _ _ _ _ _ (by decide) (W1.to (by omega) (fun _ _ _ _ => rfl)))
    · refine k_iconst (1) dL_law_265 (by decide) ?_
      refine k_goto 270 dL_law_266 (by decide) ?_
      refine k_istore (lv' := [(10, _), (8, _), (7, _), (6, _), (5, _), (4, _), (3, _), (2, _), (1, _), (0, _)]) dL_law_270 (by decide) rfl ?_
      refine k_goto 372 dL_law_272 (by decide) ?_
      exact k_room (by omega) (by omega) (k _ _ _ _ _ _ (by decide) (W1.to (by omega) (fun _ _ _ _ => rfl)))
  · refine k_iconst (1) dL_law_254 (by decide) ?_
    refine k_goto 259 dL_law_255 (by decide) ?_
    refine k_invV (As := [_]) dL_law_259 mm_X6_breakSensor wL_L_183 ⟨by decide, by decide⟩ hK.1.1 hK.1.2 rfl rfl (Nat.le_of_ble_eq_true rfl) (Nat.zero_le _) (Nat.zero_le _) (cw_break hK W (by first | exact Or.inl rfl | exact Or.inr rfl) (fun σ1 W1 => ⟨rfl, ?_⟩))
    refine k_ifeq 269 dL_law_262 (by decide) (fun h262 => ?_) (fun h262 => ?_)
    · refine k_iconst (0) dL_law_269 (by decide) ?_
      refine k_istore (lv' := [(10, _), (8, _), (7, _), (6, _), (5, _), (4, _), (3, _), (2, _), (1, _), (0, _)]) dL_law_270 (by decide) rfl ?_
      refine k_goto 372 dL_law_272 (by decide) ?_
      exact k_room (by omega) (by omega) (k _ _ _ _ _ _ (by decide) (W1.to (by omega) (fun _ _ _ _ => rfl)))
    · refine k_iconst (1) dL_law_265 (by decide) ?_
      refine k_goto 270 dL_law_266 (by decide) ?_
      refine k_istore (lv' := [(10, _), (8, _), (7, _), (6, _), (5, _), (4, _), (3, _), (2, _), (1, _), (0, _)]) dL_law_270 (by decide) rfl ?_
      refine k_goto 372 dL_law_272 (by decide) ?_
      exact k_room (by omega) (by omega) (k _ _ _ _ _ _ (by decide) (W1.to (by omega) (fun _ _ _ _ => rfl)))

set_option maxRecDepth 100000 in
set_option maxHeartbeats 4000000 in
theorem c_seed {X : kn_X} {σ : kn_S} {τ : kn_T} {z : kn_Z} {B m fi t y sp lo c n : Nat} {g : Nat → Int32} {l : List kw_G} {x : Int32} {p : Int64} {Q : kn_Q} (hK : kn_isK z) (W : kw_W σ B g m fi l) (hB : B + 10000 < 1000000000) (hy : y < 100000) (h1 : 500 ≤ sp) (h2 : sp ≤ 7000) (h3 : lo ≤ 100) (k : ∀ (v : Int32) (σ8 : kn_S) (g8 : Nat → Int32) (m8 f8 : Nat) (l8 : List kw_G), ¬ v < 0 → kw_W σ8 (B + 1000) g8 m8 f8 ((g, m, fi) :: l8) → kn_Go X ML_lawK 372 [(10, .int v), (8, .long p), (7, .int (nI lo)), (6, .int (nI sp)), (5, .int (nI y)), (4, .int x), (3, .int (nI t)), (2, .int 1), (1, .ref 0), (0, .retAddr 0)] [] σ8 τ z c n Q) : kn_Go X ML_lawK 275 [(10, .int 0), (8, .long p), (7, .int (nI lo)), (6, .int (nI sp)), (5, .int (nI y)), (4, .int x), (3, .int (nI t)), (2, .int 1), (1, .ref 0), (0, .retAddr 0)] [] σ τ z (c + 2) (n + 12) Q := by
  have W0 := W
  obtain ⟨⟨h, hfi, hJ⟩, -⟩ := W0
  have hop := kw_op h1 h2 h3
  obtain ⟨cl, hce, hcl⟩ := kr_cell hop
  refine k_aload_n 1 dL_law_275 rfl rfl ?_
  refine k_iload dL_law_276 rfl ?_
  refine k_invSH2 (c) (n) (As := [_, _]) dL_law_278 mm_L_seed wL_L_127 ⟨by decide, by decide⟩ rfl rfl (Nat.le_of_ble_eq_true rfl) (by omega) (by omega) (cw_seed hK W (show y ≤ 999999 by omega) (fun σ1 W1 => ⟨rfl, ?_⟩))
  have hv9 : ¬ g 10 < 0 := kw_ge0 h.1.2.2.2.2.2.1.2.1 (by decide)
  refine k_istore (lv' := [(10, _), (8, _), (7, _), (6, _), (5, _), (4, _), (3, _), (2, _), (1, _), (0, _)]) dL_law_281 (by decide) rfl ?_
  refine k_goto 372 dL_law_283 (by decide) ?_
  exact k_room (by omega) (by omega) (k _ _ _ _ _ _ (hv9) (W1.to (by omega) (fun _ _ _ _ => rfl)))

set_option maxRecDepth 100000 in
set_option maxHeartbeats 4000000 in
theorem c_begin {X : kn_X} {σ : kn_S} {τ : kn_T} {z : kn_Z} {B m fi t y sp lo c n : Nat} {g : Nat → Int32} {l : List kw_G} {x : Int32} {p : Int64} {Q : kn_Q} (hK : kn_isK z) (W : kw_W σ B g m fi l) (hB : B + 10000 < 1000000000) (hy : y < 100000) (h1 : 500 ≤ sp) (h2 : sp ≤ 7000) (h3 : lo ≤ 100) (k : ∀ (v : Int32) (σ8 : kn_S) (g8 : Nat → Int32) (m8 f8 : Nat) (l8 : List kw_G), ¬ v < 0 → kw_W σ8 (B + 1000) g8 m8 f8 ((g, m, fi) :: l8) → kn_Go X ML_lawK 372 [(10, .int v), (8, .long p), (7, .int (nI lo)), (6, .int (nI sp)), (5, .int (nI y)), (4, .int x), (3, .int (nI t)), (2, .int 1), (1, .ref 0), (0, .retAddr 0)] [] σ8 τ z c n Q) : kn_Go X ML_lawK 286 [(10, .int 0), (8, .long p), (7, .int (nI lo)), (6, .int (nI sp)), (5, .int (nI y)), (4, .int x), (3, .int (nI t)), (2, .int 1), (1, .ref 0), (0, .retAddr 0)] [] σ τ z (c + 2) (n + 12) Q := by
  have W0 := W
  obtain ⟨⟨h, hfi, hJ⟩, -⟩ := W0
  have hop := kw_op h1 h2 h3
  obtain ⟨cl, hce, hcl⟩ := kr_cell hop
  refine k_iload dL_law_286 rfl ?_
  refine k_bipush (7) dL_law_288 (by decide) ?_
  refine k_irem dL_law_290 (by decide) ?_
  rw [show nI y - nI y / 7 * 7 = nI (y % 7) from kw_mod_ (d := 7) (by omega) (by decide) (by decide)]
  refine k_ifne 311 dL_law_291 (by decide) (fun h291 => ?_) (fun h291 => ?_)
  · refine k_aload_n 1 dL_law_311 rfl rfl ?_
    refine k_iload dL_law_312 rfl ?_
    refine k_iload dL_law_314 rfl ?_
    refine k_iload dL_law_316 rfl ?_
    refine k_sipush (20001) dL_law_318 (by decide) ?_
    refine k_irem dL_law_321 (by decide) ?_
    rw [show nI y - nI y / 20001 * 20001 = nI (y % 20001) from kw_mod_ (d := 20001) (by omega) (by decide) (by decide)]
    refine k_invSH2 (c) (n) (As := [_, _, _, _]) dL_law_322 mm_L_fire wL_L_129 ⟨by decide, by decide⟩ rfl rfl (Nat.le_of_ble_eq_true rfl) (by omega) (by omega) (cw_fire hK W hop hce hcl (show y % 20001 ≤ 20000 by omega) (by omega) (fun σ1 W1 => ⟨rfl, ?_⟩))
    have hv9 : ¬ kg_ta (kx g) m cl (nI (y % 20001)) < 0 := kw_taP h.1.2.2 (by omega)
    refine k_istore (lv' := [(10, _), (8, _), (7, _), (6, _), (5, _), (4, _), (3, _), (2, _), (1, _), (0, _)]) dL_law_325 (by decide) rfl ?_
    refine k_goto 372 dL_law_327 (by decide) ?_
    exact k_room (by omega) (by omega) (k _ _ _ _ _ _ (hv9) (W1.to (by omega) (fun _ _ _ _ => rfl)))
  · refine k_aload_n 1 dL_law_294 rfl rfl ?_
    refine k_iconst (2) dL_law_295 (by decide) ?_
    refine k_iload dL_law_296 rfl ?_
    refine k_bipush (7) dL_law_298 (by decide) ?_
    refine k_idiv dL_law_300 (by decide) ?_
    rw [show nI y / 7 = nI (y / 7) from kw_div (d := 7) (by omega) (by decide) (by decide)]
    refine k_bipush (7) dL_law_301 (by decide) ?_
    refine k_irem dL_law_303 (by decide) ?_
    rw [show nI (y / 7) - nI (y / 7) / 7 * 7 = nI ((y / 7) % 7) from kw_mod_ (d := 7) (by omega) (by decide) (by decide)]
    refine k_iadd dL_law_304 ?_
    rw [show (2 : Int32) + nI (y / 7 % 7) = nI (2 + y / 7 % 7) from nI_add 2 _]
    refine k_invSH2 (c) (n) (As := [_, _]) dL_law_305 mm_L_begin wL_L_119 ⟨by decide, by decide⟩ rfl rfl (Nat.le_of_ble_eq_true rfl) (by omega) (by omega) (cw_begin hK W (M := 2 + y / 7 % 7) (by omega) (fun σ1 W1 => ⟨rfl, ?_⟩))
    have hv9 : ¬ nI fi < 0 := nI_pos (by omega)
    refine k_goto 325 dL_law_308 (by decide) ?_
    refine k_istore (lv' := [(10, _), (8, _), (7, _), (6, _), (5, _), (4, _), (3, _), (2, _), (1, _), (0, _)]) dL_law_325 (by decide) rfl ?_
    refine k_goto 372 dL_law_327 (by decide) ?_
    exact k_room (by omega) (by omega) (k _ _ _ _ _ _ (hv9) (W1.to (by omega) (fun _ _ _ _ => rfl)))

set_option maxRecDepth 100000 in
set_option maxHeartbeats 4000000 in
theorem c_fire {X : kn_X} {σ : kn_S} {τ : kn_T} {z : kn_Z} {B m fi t y sp lo c n : Nat} {g : Nat → Int32} {l : List kw_G} {x : Int32} {p : Int64} {Q : kn_Q} (hK : kn_isK z) (W : kw_W σ B g m fi l) (hB : B + 10000 < 1000000000) (hy : y < 100000) (h1 : 500 ≤ sp) (h2 : sp ≤ 7000) (h3 : lo ≤ 100) (k : ∀ (v : Int32) (σ8 : kn_S) (g8 : Nat → Int32) (m8 f8 : Nat) (l8 : List kw_G), ¬ v < 0 → kw_W σ8 (B + 1000) g8 m8 f8 ((g, m, fi) :: l8) → kn_Go X ML_lawK 372 [(10, .int v), (8, .long p), (7, .int (nI lo)), (6, .int (nI sp)), (5, .int (nI y)), (4, .int x), (3, .int (nI t)), (2, .int 1), (1, .ref 0), (0, .retAddr 0)] [] σ8 τ z c n Q) : kn_Go X ML_lawK 330 [(10, .int 0), (8, .long p), (7, .int (nI lo)), (6, .int (nI sp)), (5, .int (nI y)), (4, .int x), (3, .int (nI t)), (2, .int 1), (1, .ref 0), (0, .retAddr 0)] [] σ τ z (c + 2) (n + 12) Q := by
  have W0 := W
  obtain ⟨⟨h, hfi, hJ⟩, -⟩ := W0
  have hop := kw_op h1 h2 h3
  obtain ⟨cl, hce, hcl⟩ := kr_cell hop
  refine k_aload_n 1 dL_law_330 rfl rfl ?_
  refine k_iload dL_law_331 rfl ?_
  refine k_iload dL_law_333 rfl ?_
  refine k_iload dL_law_335 rfl ?_
  refine k_sipush (2000) dL_law_337 (by decide) ?_
  refine k_irem dL_law_340 (by decide) ?_
  rw [show nI y - nI y / 2000 * 2000 = nI (y % 2000) from kw_mod_ (d := 2000) (by omega) (by decide) (by decide)]
  refine k_invSH2 (c) (n) (As := [_, _, _, _]) dL_law_341 mm_L_fire wL_L_129 ⟨by decide, by decide⟩ rfl rfl (Nat.le_of_ble_eq_true rfl) (by omega) (by omega) (cw_fire hK W hop hce hcl (show y % 2000 ≤ 20000 by omega) (by omega) (fun σ1 W1 => ⟨rfl, ?_⟩))
  have hv9 : ¬ kg_ta (kx g) m cl (nI (y % 2000)) < 0 := kw_taP h.1.2.2 (by omega)
  refine k_istore (lv' := [(10, _), (8, _), (7, _), (6, _), (5, _), (4, _), (3, _), (2, _), (1, _), (0, _)]) dL_law_344 (by decide) rfl ?_
  refine k_goto 372 dL_law_346 (by decide) ?_
  exact k_room (by omega) (by omega) (k _ _ _ _ _ _ (hv9) (W1.to (by omega) (fun _ _ _ _ => rfl)))

set_option maxRecDepth 100000 in
set_option maxHeartbeats 4000000 in
theorem c_drive {X : kn_X} {σ : kn_S} {τ : kn_T} {z : kn_Z} {B m fi t y sp lo c n : Nat} {g : Nat → Int32} {l : List kw_G} {x : Int32} {p : Int64} {Q : kn_Q} (hK : kn_isK z) (W : kw_W σ B g m fi l) (hB : B + 10000 < 1000000000) (hy : y < 100000) (h1 : 500 ≤ sp) (h2 : sp ≤ 7000) (h3 : lo ≤ 100) (k : ∀ (v : Int32) (σ8 : kn_S) (g8 : Nat → Int32) (m8 f8 : Nat) (l8 : List kw_G), ¬ v < 0 → kw_W σ8 (B + 1000) g8 m8 f8 ((g, m, fi) :: l8) → kn_Go X ML_lawK 372 [(10, .int v), (8, .long p), (7, .int (nI lo)), (6, .int (nI sp)), (5, .int (nI y)), (4, .int x), (3, .int (nI t)), (2, .int 1), (1, .ref 0), (0, .retAddr 0)] [] σ8 τ z c n Q) : kn_Go X ML_lawK 349 [(10, .int 0), (8, .long p), (7, .int (nI lo)), (6, .int (nI sp)), (5, .int (nI y)), (4, .int x), (3, .int (nI t)), (2, .int 1), (1, .ref 0), (0, .retAddr 0)] [] σ τ z (c + 2) (n + 12) Q := by
  have W0 := W
  obtain ⟨⟨h, hfi, hJ⟩, -⟩ := W0
  have hop := kw_op h1 h2 h3
  obtain ⟨cl, hce, hcl⟩ := kr_cell hop
  refine k_aload_n 1 dL_law_349 rfl rfl ?_
  refine k_iload dL_law_350 rfl ?_
  refine k_iload dL_law_352 rfl ?_
  refine k_bipush (80) dL_law_354 (by decide) ?_
  refine k_iload dL_law_356 rfl ?_
  refine k_bipush (31) dL_law_358 (by decide) ?_
  refine k_irem dL_law_360 (by decide) ?_
  rw [show nI y - nI y / 31 * 31 = nI (y % 31) from kw_mod_ (d := 31) (by omega) (by decide) (by decide)]
  refine k_iadd dL_law_361 ?_
  rw [show (80 : Int32) + nI (y % 31) = nI (80 + y % 31) from nI_add 80 _]
  refine k_iload dL_law_362 rfl ?_
  refine k_bipush (90) dL_law_364 (by decide) ?_
  refine k_irem dL_law_366 (by decide) ?_
  rw [show nI y - nI y / 90 * 90 = nI (y % 90) from kw_mod_ (d := 90) (by omega) (by decide) (by decide)]
  refine k_invSH2 (c) (n) (As := [_, _, _, _, _]) dL_law_367 mm_L_drive wL_L_131 ⟨by decide, by decide⟩ rfl rfl (Nat.le_of_ble_eq_true rfl) (by omega) (by omega) (cw_drive hK W ⟨hop, kr_oct80 (show 80 ≤ 80 + y % 31 by omega) (by omega), hce, hcl⟩ (show y % 90 ≤ 1000 by omega) (by omega) (fun σ1 W1 => ⟨rfl, ?_⟩))
  have hv9 : ¬ (gD m cl (nI sp) (nI lo) (nI (80 + y % 31)) g (y % 90)).1 < 0 := kw_gDP m cl (nI sp) (nI lo) (nI (80 + y % 31)) g (y % 90) (by omega)
  refine k_istore (lv' := [(10, _), (8, _), (7, _), (6, _), (5, _), (4, _), (3, _), (2, _), (1, _), (0, _)]) dL_law_370 (by decide) rfl ?_
  exact k_room (by omega) (by omega) (k _ _ _ _ _ _ (hv9) (W1.to (by omega) (fun _ _ _ _ => rfl)))

