-- the law's cases
theorem kr_lcmp (x : Int64) : lg_cmp x x = 0 := by
  unfold lg_cmp
  rw [if_neg (by intro h; rw [gt_iff_lt, Int64.lt_iff_toInt_lt] at h; omega), if_pos rfl]
set_option maxRecDepth 100000 in
set_option maxHeartbeats 4000000 in
theorem c_begin {X : kn_X} {σ : kn_S} {τ : kn_T} {z : kn_Z} {B c n i : Nat} {Q : kn_Q} (hV : kr_V z) (W : kr_Ws σ B) (hB : B + 2000 < 16777216) (hi : i + 5 ≤ X.1) (hX : X.1 < 2 ^ 31) (k : ∀ (σ9 : kn_S) (τ9 : kn_T), kr_Ws σ9 (B + 1000) → kn_Go X ML_law 1775 [(5, .int (nI i)), (4, .ref 134), (3, .ref 133), (2, .ref 128), (1, .ref 0), (0, .retAddr 0)] [] σ9 τ9 z c n Q) : kn_Go X ML_law 176 [(5, .int (nI i)), (4, .ref 134), (3, .ref 133), (2, .ref 128), (1, .ref 0), (0, .retAddr 0)] [] σ τ z (c + 2) (n + 12) Q := by
  have hin : ∀ j : Nat, j < 5 → vp_in (nI i + nI j) X.1 := fun j hj => by rw [nI_add]; exact vp_in_nI (by omega) hX
  refine k_aload_n 1 dL_law_176 rfl rfl ?_
  refine k_aload_nR 0 dL_law_177 rfl rfl ?_
  refine k_iload dL_law_178 rfl ?_
  refine k_iconst (1) dL_law_180 (by decide) ?_
  refine k_iadd dL_law_181 ?_
  refine k_roload dL_law_182 (by decide) (hin 1 (by decide)) ?_
  refine k_aload_n 3 dL_law_183 rfl rfl ?_
  refine k_invSH (As := [_, _, _]) dL_law_184 mm_L_begin wL_L_87 ⟨by decide, by decide⟩ rfl rfl (Nat.le_of_ble_eq_true rfl) (c1 := 2) (n1 := 12) (by omega) (by omega) (cs_begin _ hV W  _ (fun κ v σ1 τ1 h1 hm => ⟨rfl, ?_⟩))
  show kn_Go X ML_law 187 _ _ σ1 τ1 z (c + 2 - 2) (n + 12 - 12) Q; rw [Nat.add_sub_cancel, Nat.add_sub_cancel]
  refine k_istore (lv' := [(6, _), (5, _), (4, _), (3, _), (2, _), (1, _), (0, _)]) dL_law_187 (by decide) rfl ?_
  refine k_aload_n 2 dL_law_189 rfl rfl ?_
  refine k_aload_nR 0 dL_law_190 rfl rfl ?_
  refine k_iload dL_law_191 rfl ?_
  refine k_iconst (1) dL_law_193 (by decide) ?_
  refine k_iadd dL_law_194 ?_
  refine k_roload dL_law_195 (by decide) (hin 1 (by decide)) ?_
  refine k_invV (As := [_]) dL_law_196 mm_X7_begin wL_L_92 ⟨by decide, by decide⟩ hV.2.1.1.1 hV.2.1.1.2 rfl rfl (Nat.le_of_ble_eq_true rfl) (Nat.zero_le _) (Nat.zero_le _) (hm _ (fun b σ2 g1 g2 g3 => ⟨rfl, ?_⟩))
  refine k_istore (lv' := [(7, _), (6, _), (5, _), (4, _), (3, _), (2, _), (1, _), (0, _)]) dL_law_199 (by decide) rfl ?_
  refine k_aload_n 2 dL_law_201 rfl rfl ?_
  refine k_invV (As := []) dL_law_202 mm_X7_thrown wL_L_93 ⟨by decide, by decide⟩ hV.2.1.1.1 hV.2.1.1.2 rfl rfl (Nat.le_of_ble_eq_true rfl) (Nat.zero_le _) (Nat.zero_le _) (m_X7_thrown hV.2.1 ⟨rfl, ?_⟩)
  refine k_iload dL_law_205 rfl ?_
  rw [g1]
  refine k_icmpeq 212 dL_law_207 (by decide) (fun h207 => ?_) (fun h207 => ?_)
  · refine k_iload dL_law_212 rfl ?_
    refine k_ifne 229 dL_law_214 (by decide) (fun h214 => ?_) (fun h214 => ?_)
    · refine k_goto 1775 dL_law_229 (by decide) ?_
      refine k_re [5, 4, 3, 2, 1, 0] (lv' := [(5, _), (4, _), (3, _), (2, _), (1, _), (0, _)]) rfl ?_
      exact k _ _ g3
    · refine k_aload_n 3 dL_law_217 rfl rfl ?_
      refine k_iconst (0) dL_law_218 (by decide) ?_
      refine k_laload dL_law_219 hV.2.2.1.1 hV.2.2.1.2 (vp_in_nI (n := 0) (by decide) (by decide)) ?_
      refine k_iload dL_law_220 rfl ?_
      refine k_i2l dL_law_222 ?_
      refine k_lcmp dL_law_223 ?_
      rw [g2 h214, show τ1 133 (Int32.toNatClampNeg 0) = v.toInt64 from h1 h214, kr_lcmp]
      refine k_ifeq 229 dL_law_224 (by decide) (fun h224 => ?_) (fun h224 => ?_)
      · refine k_goto 1775 dL_law_229 (by decide) ?_
        refine k_re [5, 4, 3, 2, 1, 0] (lv' := [(5, _), (4, _), (3, _), (2, _), (1, _), (0, _)]) rfl ?_
        exact k _ _ g3
      · exact absurd rfl h224
  · exact absurd rfl h207

set_option maxRecDepth 100000 in
set_option maxHeartbeats 4000000 in
theorem c_set {X : kn_X} {σ : kn_S} {τ : kn_T} {z : kn_Z} {B c n i : Nat} {Q : kn_Q} (hV : kr_V z) (W : kr_Ws σ B) (hB : B + 2000 < 16777216) (hi : i + 5 ≤ X.1) (hX : X.1 < 2 ^ 31) (k : ∀ (σ9 : kn_S) (τ9 : kn_T), kr_Ws σ9 (B + 1000) → kn_Go X ML_law 1775 [(5, .int (nI i)), (4, .ref 134), (3, .ref 133), (2, .ref 128), (1, .ref 0), (0, .retAddr 0)] [] σ9 τ9 z c n Q) : kn_Go X ML_law 232 [(5, .int (nI i)), (4, .ref 134), (3, .ref 133), (2, .ref 128), (1, .ref 0), (0, .retAddr 0)] [] σ τ z (c + 2) (n + 12) Q := by
  have hin : ∀ j : Nat, j < 5 → vp_in (nI i + nI j) X.1 := fun j hj => by rw [nI_add]; exact vp_in_nI (by omega) hX
  refine k_aload_n 1 dL_law_232 rfl rfl ?_
  refine k_aload_nR 0 dL_law_233 rfl rfl ?_
  refine k_iload dL_law_234 rfl ?_
  refine k_iconst (1) dL_law_236 (by decide) ?_
  refine k_iadd dL_law_237 ?_
  refine k_roload dL_law_238 (by decide) (hin 1 (by decide)) ?_
  refine k_aload_nR 0 dL_law_239 rfl rfl ?_
  refine k_iload dL_law_240 rfl ?_
  refine k_iconst (2) dL_law_242 (by decide) ?_
  refine k_iadd dL_law_243 ?_
  refine k_roload dL_law_244 (by decide) (hin 2 (by decide)) ?_
  refine k_aload_n 3 dL_law_245 rfl rfl ?_
  refine k_invSH (As := [_, _, _, _]) dL_law_246 mm_L_set wL_L_96 ⟨by decide, by decide⟩ rfl rfl (Nat.le_of_ble_eq_true rfl) (c1 := 2) (n1 := 12) (by omega) (by omega) (cs_set _ _ hV W  _ (fun κ v σ1 τ1 h1 hm => ⟨rfl, ?_⟩))
  show kn_Go X ML_law 249 _ _ σ1 τ1 z (c + 2 - 2) (n + 12 - 12) Q; rw [Nat.add_sub_cancel, Nat.add_sub_cancel]
  refine k_istore (lv' := [(6, _), (5, _), (4, _), (3, _), (2, _), (1, _), (0, _)]) dL_law_249 (by decide) rfl ?_
  refine k_aload_n 2 dL_law_251 rfl rfl ?_
  refine k_aload_nR 0 dL_law_252 rfl rfl ?_
  refine k_iload dL_law_253 rfl ?_
  refine k_iconst (1) dL_law_255 (by decide) ?_
  refine k_iadd dL_law_256 ?_
  refine k_roload dL_law_257 (by decide) (hin 1 (by decide)) ?_
  refine k_aload_nR 0 dL_law_258 rfl rfl ?_
  refine k_iload dL_law_259 rfl ?_
  refine k_iconst (2) dL_law_261 (by decide) ?_
  refine k_iadd dL_law_262 ?_
  refine k_roload dL_law_263 (by decide) (hin 2 (by decide)) ?_
  refine k_invV (As := [_, _]) dL_law_264 mm_X7_set wL_L_99 ⟨by decide, by decide⟩ hV.2.1.1.1 hV.2.1.1.2 rfl rfl (Nat.le_of_ble_eq_true rfl) (Nat.zero_le _) (Nat.zero_le _) (hm _ (fun b σ2 g1 g2 g3 => ⟨rfl, ?_⟩))
  refine k_istore (lv' := [(7, _), (6, _), (5, _), (4, _), (3, _), (2, _), (1, _), (0, _)]) dL_law_267 (by decide) rfl ?_
  refine k_aload_n 2 dL_law_269 rfl rfl ?_
  refine k_invV (As := []) dL_law_270 mm_X7_thrown wL_L_93 ⟨by decide, by decide⟩ hV.2.1.1.1 hV.2.1.1.2 rfl rfl (Nat.le_of_ble_eq_true rfl) (Nat.zero_le _) (Nat.zero_le _) (m_X7_thrown hV.2.1 ⟨rfl, ?_⟩)
  refine k_iload dL_law_273 rfl ?_
  rw [g1]
  refine k_icmpeq 280 dL_law_275 (by decide) (fun h275 => ?_) (fun h275 => ?_)
  · refine k_iload dL_law_280 rfl ?_
    refine k_ifne 297 dL_law_282 (by decide) (fun h282 => ?_) (fun h282 => ?_)
    · refine k_goto 1775 dL_law_297 (by decide) ?_
      refine k_re [5, 4, 3, 2, 1, 0] (lv' := [(5, _), (4, _), (3, _), (2, _), (1, _), (0, _)]) rfl ?_
      exact k _ _ g3
    · refine k_aload_n 3 dL_law_285 rfl rfl ?_
      refine k_iconst (0) dL_law_286 (by decide) ?_
      refine k_laload dL_law_287 hV.2.2.1.1 hV.2.2.1.2 (vp_in_nI (n := 0) (by decide) (by decide)) ?_
      refine k_iload dL_law_288 rfl ?_
      refine k_i2l dL_law_290 ?_
      refine k_lcmp dL_law_291 ?_
      rw [g2 h282, show τ1 133 (Int32.toNatClampNeg 0) = v.toInt64 from h1 h282, kr_lcmp]
      refine k_ifeq 297 dL_law_292 (by decide) (fun h292 => ?_) (fun h292 => ?_)
      · refine k_goto 1775 dL_law_297 (by decide) ?_
        refine k_re [5, 4, 3, 2, 1, 0] (lv' := [(5, _), (4, _), (3, _), (2, _), (1, _), (0, _)]) rfl ?_
        exact k _ _ g3
      · exact absurd rfl h292
  · exact absurd rfl h275

set_option maxRecDepth 100000 in
set_option maxHeartbeats 4000000 in
theorem c_value {X : kn_X} {σ : kn_S} {τ : kn_T} {z : kn_Z} {B c n i : Nat} {Q : kn_Q} (hV : kr_V z) (W : kr_Ws σ B) (hB : B + 2000 < 16777216) (hi : i + 5 ≤ X.1) (hX : X.1 < 2 ^ 31) (k : ∀ (σ9 : kn_S) (τ9 : kn_T), kr_Ws σ9 (B + 1000) → kn_Go X ML_law 1775 [(5, .int (nI i)), (4, .ref 134), (3, .ref 133), (2, .ref 128), (1, .ref 0), (0, .retAddr 0)] [] σ9 τ9 z c n Q) : kn_Go X ML_law 300 [(5, .int (nI i)), (4, .ref 134), (3, .ref 133), (2, .ref 128), (1, .ref 0), (0, .retAddr 0)] [] σ τ z (c + 2) (n + 12) Q := by
  have hin : ∀ j : Nat, j < 5 → vp_in (nI i + nI j) X.1 := fun j hj => by rw [nI_add]; exact vp_in_nI (by omega) hX
  refine k_aload_n 1 dL_law_300 rfl rfl ?_
  refine k_aload_nR 0 dL_law_301 rfl rfl ?_
  refine k_iload dL_law_302 rfl ?_
  refine k_iconst (1) dL_law_304 (by decide) ?_
  refine k_iadd dL_law_305 ?_
  refine k_roload dL_law_306 (by decide) (hin 1 (by decide)) ?_
  refine k_aload_n 3 dL_law_307 rfl rfl ?_
  refine k_invSH (As := [_, _, _]) dL_law_308 mm_L_value wL_L_100 ⟨by decide, by decide⟩ rfl rfl (Nat.le_of_ble_eq_true rfl) (c1 := 2) (n1 := 12) (by omega) (by omega) (cs_value _ hV W  _ (fun κ v σ1 τ1 h1 hm => ⟨rfl, ?_⟩))
  show kn_Go X ML_law 311 _ _ σ1 τ1 z (c + 2 - 2) (n + 12 - 12) Q; rw [Nat.add_sub_cancel, Nat.add_sub_cancel]
  refine k_istore (lv' := [(6, _), (5, _), (4, _), (3, _), (2, _), (1, _), (0, _)]) dL_law_311 (by decide) rfl ?_
  refine k_aload_n 2 dL_law_313 rfl rfl ?_
  refine k_aload_nR 0 dL_law_314 rfl rfl ?_
  refine k_iload dL_law_315 rfl ?_
  refine k_iconst (1) dL_law_317 (by decide) ?_
  refine k_iadd dL_law_318 ?_
  refine k_roload dL_law_319 (by decide) (hin 1 (by decide)) ?_
  refine k_invV (As := [_]) dL_law_320 mm_X7_value wL_L_102 ⟨by decide, by decide⟩ hV.2.1.1.1 hV.2.1.1.2 rfl rfl (Nat.le_of_ble_eq_true rfl) (Nat.zero_le _) (Nat.zero_le _) (hm _ (fun b σ2 g1 g2 g3 => ⟨rfl, ?_⟩))
  refine k_istore (lv' := [(7, _), (6, _), (5, _), (4, _), (3, _), (2, _), (1, _), (0, _)]) dL_law_323 (by decide) rfl ?_
  refine k_aload_n 2 dL_law_325 rfl rfl ?_
  refine k_invV (As := []) dL_law_326 mm_X7_thrown wL_L_93 ⟨by decide, by decide⟩ hV.2.1.1.1 hV.2.1.1.2 rfl rfl (Nat.le_of_ble_eq_true rfl) (Nat.zero_le _) (Nat.zero_le _) (m_X7_thrown hV.2.1 ⟨rfl, ?_⟩)
  refine k_iload dL_law_329 rfl ?_
  rw [g1]
  refine k_icmpeq 336 dL_law_331 (by decide) (fun h331 => ?_) (fun h331 => ?_)
  · refine k_iload dL_law_336 rfl ?_
    refine k_ifne 353 dL_law_338 (by decide) (fun h338 => ?_) (fun h338 => ?_)
    · refine k_goto 1775 dL_law_353 (by decide) ?_
      refine k_re [5, 4, 3, 2, 1, 0] (lv' := [(5, _), (4, _), (3, _), (2, _), (1, _), (0, _)]) rfl ?_
      exact k _ _ g3
    · refine k_aload_n 3 dL_law_341 rfl rfl ?_
      refine k_iconst (0) dL_law_342 (by decide) ?_
      refine k_laload dL_law_343 hV.2.2.1.1 hV.2.2.1.2 (vp_in_nI (n := 0) (by decide) (by decide)) ?_
      refine k_iload dL_law_344 rfl ?_
      refine k_i2l dL_law_346 ?_
      refine k_lcmp dL_law_347 ?_
      rw [g2 h338, show τ1 133 (Int32.toNatClampNeg 0) = v.toInt64 from h1 h338, kr_lcmp]
      refine k_ifeq 353 dL_law_348 (by decide) (fun h348 => ?_) (fun h348 => ?_)
      · refine k_goto 1775 dL_law_353 (by decide) ?_
        refine k_re [5, 4, 3, 2, 1, 0] (lv' := [(5, _), (4, _), (3, _), (2, _), (1, _), (0, _)]) rfl ?_
        exact k _ _ g3
      · exact absurd rfl h348
  · exact absurd rfl h331

set_option maxRecDepth 100000 in
set_option maxHeartbeats 4000000 in
theorem c_teach {X : kn_X} {σ : kn_S} {τ : kn_T} {z : kn_Z} {B c n i : Nat} {Q : kn_Q} (hV : kr_V z) (W : kr_Ws σ B) (hB : B + 2000 < 16777216) (hi : i + 5 ≤ X.1) (hX : X.1 < 2 ^ 31) (k : ∀ (σ9 : kn_S) (τ9 : kn_T), kr_Ws σ9 (B + 1000) → kn_Go X ML_law 1775 [(5, .int (nI i)), (4, .ref 134), (3, .ref 133), (2, .ref 128), (1, .ref 0), (0, .retAddr 0)] [] σ9 τ9 z c n Q) : kn_Go X ML_law 356 [(5, .int (nI i)), (4, .ref 134), (3, .ref 133), (2, .ref 128), (1, .ref 0), (0, .retAddr 0)] [] σ τ z (c + 2) (n + 12) Q := by
  have hin : ∀ j : Nat, j < 5 → vp_in (nI i + nI j) X.1 := fun j hj => by rw [nI_add]; exact vp_in_nI (by omega) hX
  refine k_aload_n 1 dL_law_356 rfl rfl ?_
  refine k_aload_nR 0 dL_law_357 rfl rfl ?_
  refine k_iload dL_law_358 rfl ?_
  refine k_iconst (1) dL_law_360 (by decide) ?_
  refine k_iadd dL_law_361 ?_
  refine k_roload dL_law_362 (by decide) (hin 1 (by decide)) ?_
  refine k_aload_nR 0 dL_law_363 rfl rfl ?_
  refine k_iload dL_law_364 rfl ?_
  refine k_iconst (2) dL_law_366 (by decide) ?_
  refine k_iadd dL_law_367 ?_
  refine k_roload dL_law_368 (by decide) (hin 2 (by decide)) ?_
  refine k_aload_nR 0 dL_law_369 rfl rfl ?_
  refine k_iload dL_law_370 rfl ?_
  refine k_iconst (3) dL_law_372 (by decide) ?_
  refine k_iadd dL_law_373 ?_
  refine k_roload dL_law_374 (by decide) (hin 3 (by decide)) ?_
  refine k_aload_n 3 dL_law_375 rfl rfl ?_
  refine k_invSH (As := [_, _, _, _, _]) dL_law_376 mm_L_teach wL_L_103 ⟨by decide, by decide⟩ rfl rfl (Nat.le_of_ble_eq_true rfl) (c1 := 2) (n1 := 12) (by omega) (by omega) (cs_teach _ _ _ hV W  _ (fun κ v σ1 τ1 h1 hm => ⟨rfl, ?_⟩))
  show kn_Go X ML_law 379 _ _ σ1 τ1 z (c + 2 - 2) (n + 12 - 12) Q; rw [Nat.add_sub_cancel, Nat.add_sub_cancel]
  refine k_istore (lv' := [(6, _), (5, _), (4, _), (3, _), (2, _), (1, _), (0, _)]) dL_law_379 (by decide) rfl ?_
  refine k_aload_n 2 dL_law_381 rfl rfl ?_
  refine k_aload_nR 0 dL_law_382 rfl rfl ?_
  refine k_iload dL_law_383 rfl ?_
  refine k_iconst (1) dL_law_385 (by decide) ?_
  refine k_iadd dL_law_386 ?_
  refine k_roload dL_law_387 (by decide) (hin 1 (by decide)) ?_
  refine k_aload_nR 0 dL_law_388 rfl rfl ?_
  refine k_iload dL_law_389 rfl ?_
  refine k_iconst (2) dL_law_391 (by decide) ?_
  refine k_iadd dL_law_392 ?_
  refine k_roload dL_law_393 (by decide) (hin 2 (by decide)) ?_
  refine k_aload_nR 0 dL_law_394 rfl rfl ?_
  refine k_iload dL_law_395 rfl ?_
  refine k_iconst (3) dL_law_397 (by decide) ?_
  refine k_iadd dL_law_398 ?_
  refine k_roload dL_law_399 (by decide) (hin 3 (by decide)) ?_
  refine k_invV (As := [_, _, _]) dL_law_400 mm_X7_teach wL_L_106 ⟨by decide, by decide⟩ hV.2.1.1.1 hV.2.1.1.2 rfl rfl (Nat.le_of_ble_eq_true rfl) (Nat.zero_le _) (Nat.zero_le _) (hm _ (fun b σ2 g1 g2 g3 => ⟨rfl, ?_⟩))
  refine k_istore (lv' := [(7, _), (6, _), (5, _), (4, _), (3, _), (2, _), (1, _), (0, _)]) dL_law_403 (by decide) rfl ?_
  refine k_aload_n 2 dL_law_405 rfl rfl ?_
  refine k_invV (As := []) dL_law_406 mm_X7_thrown wL_L_93 ⟨by decide, by decide⟩ hV.2.1.1.1 hV.2.1.1.2 rfl rfl (Nat.le_of_ble_eq_true rfl) (Nat.zero_le _) (Nat.zero_le _) (m_X7_thrown hV.2.1 ⟨rfl, ?_⟩)
  refine k_iload dL_law_409 rfl ?_
  rw [g1]
  refine k_icmpeq 416 dL_law_411 (by decide) (fun h411 => ?_) (fun h411 => ?_)
  · refine k_iload dL_law_416 rfl ?_
    refine k_ifne 433 dL_law_418 (by decide) (fun h418 => ?_) (fun h418 => ?_)
    · refine k_goto 1775 dL_law_433 (by decide) ?_
      refine k_re [5, 4, 3, 2, 1, 0] (lv' := [(5, _), (4, _), (3, _), (2, _), (1, _), (0, _)]) rfl ?_
      exact k _ _ g3
    · refine k_aload_n 3 dL_law_421 rfl rfl ?_
      refine k_iconst (0) dL_law_422 (by decide) ?_
      refine k_laload dL_law_423 hV.2.2.1.1 hV.2.2.1.2 (vp_in_nI (n := 0) (by decide) (by decide)) ?_
      refine k_iload dL_law_424 rfl ?_
      refine k_i2l dL_law_426 ?_
      refine k_lcmp dL_law_427 ?_
      rw [g2 h418, show τ1 133 (Int32.toNatClampNeg 0) = v.toInt64 from h1 h418, kr_lcmp]
      refine k_ifeq 433 dL_law_428 (by decide) (fun h428 => ?_) (fun h428 => ?_)
      · refine k_goto 1775 dL_law_433 (by decide) ?_
        refine k_re [5, 4, 3, 2, 1, 0] (lv' := [(5, _), (4, _), (3, _), (2, _), (1, _), (0, _)]) rfl ?_
        exact k _ _ g3
      · exact absurd rfl h428
  · exact absurd rfl h411

set_option maxRecDepth 100000 in
set_option maxHeartbeats 4000000 in
theorem c_breakSensor {X : kn_X} {σ : kn_S} {τ : kn_T} {z : kn_Z} {B c n i : Nat} {Q : kn_Q} (hV : kr_V z) (W : kr_Ws σ B) (hB : B + 2000 < 16777216) (hi : i + 5 ≤ X.1) (hX : X.1 < 2 ^ 31) (k : ∀ (σ9 : kn_S) (τ9 : kn_T), kr_Ws σ9 (B + 1000) → kn_Go X ML_law 1775 [(5, .int (nI i)), (4, .ref 134), (3, .ref 133), (2, .ref 128), (1, .ref 0), (0, .retAddr 0)] [] σ9 τ9 z c n Q) : kn_Go X ML_law 436 [(5, .int (nI i)), (4, .ref 134), (3, .ref 133), (2, .ref 128), (1, .ref 0), (0, .retAddr 0)] [] σ τ z (c + 2) (n + 12) Q := by
  have hin : ∀ j : Nat, j < 5 → vp_in (nI i + nI j) X.1 := fun j hj => by rw [nI_add]; exact vp_in_nI (by omega) hX
  by_cases hb1 : kn_rv X 0 (nI i + 1).toNatClampNeg = 0
  · refine k_aload_n 1 dL_law_436 rfl rfl ?_
    refine k_aload_nR 0 dL_law_437 rfl rfl ?_
    refine k_iload dL_law_438 rfl ?_
    refine k_iconst (1) dL_law_440 (by decide) ?_
    refine k_iadd dL_law_441 ?_
    refine k_roload dL_law_442 (by decide) (hin 1 (by decide)) ?_
    refine k_ifeq 450 dL_law_443 (by decide) (fun h443 => ?_) (fun h443 => ?_)
    · refine k_iconst (0) dL_law_450 (by decide) ?_
      refine k_invV (As := [_]) dL_law_451 mm_X6_breakSensor wL_L_107 ⟨by decide, by decide⟩ hV.1.1.1 hV.1.1.2 rfl rfl (Nat.le_of_ble_eq_true rfl) (Nat.zero_le _) (Nat.zero_le _) (cn_breakSensor (Or.inl rfl) hV W  _ (fun v σ1 hm => ⟨rfl, ?_⟩))
      refine k_aload_n 2 dL_law_454 rfl rfl ?_
      refine k_aload_nR 0 dL_law_455 rfl rfl ?_
      refine k_iload dL_law_456 rfl ?_
      refine k_iconst (1) dL_law_458 (by decide) ?_
      refine k_iadd dL_law_459 ?_
      refine k_roload dL_law_460 (by decide) (hin 1 (by decide)) ?_
      refine k_ifeq 468 dL_law_461 (by decide) (fun h461 => ?_) (fun h461 => ?_)
      · refine k_iconst (0) dL_law_468 (by decide) ?_
        refine k_invV (As := [_]) dL_law_469 mm_X7_breakSensor wL_L_111 ⟨by decide, by decide⟩ hV.2.1.1.1 hV.2.1.1.2 rfl rfl (Nat.le_of_ble_eq_true rfl) (Nat.zero_le _) (Nat.zero_le _) (hm _ (fun σ2 g3 => ⟨rfl, ?_⟩))
        refine k_icmpeq 1775 dL_law_472 (by decide) (fun h472 => ?_) (fun h472 => ?_)
        · exact k_room (Nat.le_add_right _ _) (Nat.le_add_right _ _) (k _ _ g3)
        · exact absurd rfl h472
      · exact absurd hb1 h461
    · exact absurd hb1 h443
  · refine k_aload_n 1 dL_law_436 rfl rfl ?_
    refine k_aload_nR 0 dL_law_437 rfl rfl ?_
    refine k_iload dL_law_438 rfl ?_
    refine k_iconst (1) dL_law_440 (by decide) ?_
    refine k_iadd dL_law_441 ?_
    refine k_roload dL_law_442 (by decide) (hin 1 (by decide)) ?_
    refine k_ifeq 450 dL_law_443 (by decide) (fun h443 => ?_) (fun h443 => ?_)
    · exact absurd h443 hb1
    · refine k_iconst (1) dL_law_446 (by decide) ?_
      refine k_goto 451 dL_law_447 (by decide) ?_
      refine k_invV (As := [_]) dL_law_451 mm_X6_breakSensor wL_L_107 ⟨by decide, by decide⟩ hV.1.1.1 hV.1.1.2 rfl rfl (Nat.le_of_ble_eq_true rfl) (Nat.zero_le _) (Nat.zero_le _) (cn_breakSensor (Or.inr rfl) hV W  _ (fun v σ1 hm => ⟨rfl, ?_⟩))
      refine k_aload_n 2 dL_law_454 rfl rfl ?_
      refine k_aload_nR 0 dL_law_455 rfl rfl ?_
      refine k_iload dL_law_456 rfl ?_
      refine k_iconst (1) dL_law_458 (by decide) ?_
      refine k_iadd dL_law_459 ?_
      refine k_roload dL_law_460 (by decide) (hin 1 (by decide)) ?_
      refine k_ifeq 468 dL_law_461 (by decide) (fun h461 => ?_) (fun h461 => ?_)
      · exact absurd h461 hb1
      · refine k_iconst (1) dL_law_464 (by decide) ?_
        refine k_goto 469 dL_law_465 (by decide) ?_
        refine k_invV (As := [_]) dL_law_469 mm_X7_breakSensor wL_L_111 ⟨by decide, by decide⟩ hV.2.1.1.1 hV.2.1.1.2 rfl rfl (Nat.le_of_ble_eq_true rfl) (Nat.zero_le _) (Nat.zero_le _) (hm _ (fun σ2 g3 => ⟨rfl, ?_⟩))
        refine k_icmpeq 1775 dL_law_472 (by decide) (fun h472 => ?_) (fun h472 => ?_)
        · exact k_room (Nat.le_add_right _ _) (Nat.le_add_right _ _) (k _ _ g3)
        · exact absurd rfl h472

set_option maxRecDepth 100000 in
set_option maxHeartbeats 4000000 in
theorem c_seed {X : kn_X} {σ : kn_S} {τ : kn_T} {z : kn_Z} {B c n i : Nat} {Q : kn_Q} (hV : kr_V z) (W : kr_Ws σ B) (hB : B + 2000 < 16777216) (hi : i + 5 ≤ X.1) (hX : X.1 < 2 ^ 31) (k : ∀ (σ9 : kn_S) (τ9 : kn_T), kr_Ws σ9 (B + 1000) → kn_Go X ML_law 1775 [(5, .int (nI i)), (4, .ref 134), (3, .ref 133), (2, .ref 128), (1, .ref 0), (0, .retAddr 0)] [] σ9 τ9 z c n Q) : kn_Go X ML_law 477 [(5, .int (nI i)), (4, .ref 134), (3, .ref 133), (2, .ref 128), (1, .ref 0), (0, .retAddr 0)] [] σ τ z (c + 2) (n + 12) Q := by
  have hin : ∀ j : Nat, j < 5 → vp_in (nI i + nI j) X.1 := fun j hj => by rw [nI_add]; exact vp_in_nI (by omega) hX
  refine k_aload_n 1 dL_law_477 rfl rfl ?_
  refine k_aload_nR 0 dL_law_478 rfl rfl ?_
  refine k_iload dL_law_479 rfl ?_
  refine k_iconst (1) dL_law_481 (by decide) ?_
  refine k_iadd dL_law_482 ?_
  refine k_roload dL_law_483 (by decide) (hin 1 (by decide)) ?_
  refine k_aload_n 3 dL_law_484 rfl rfl ?_
  refine k_invSH (As := [_, _, _]) dL_law_485 mm_L_seed wL_L_112 ⟨by decide, by decide⟩ rfl rfl (Nat.le_of_ble_eq_true rfl) (c1 := 2) (n1 := 12) (by omega) (by omega) (cs_seed _ hV W  _ (fun κ v σ1 τ1 h1 hm => ⟨rfl, ?_⟩))
  show kn_Go X ML_law 488 _ _ σ1 τ1 z (c + 2 - 2) (n + 12 - 12) Q; rw [Nat.add_sub_cancel, Nat.add_sub_cancel]
  refine k_istore (lv' := [(6, _), (5, _), (4, _), (3, _), (2, _), (1, _), (0, _)]) dL_law_488 (by decide) rfl ?_
  refine k_aload_n 2 dL_law_490 rfl rfl ?_
  refine k_aload_nR 0 dL_law_491 rfl rfl ?_
  refine k_iload dL_law_492 rfl ?_
  refine k_iconst (1) dL_law_494 (by decide) ?_
  refine k_iadd dL_law_495 ?_
  refine k_roload dL_law_496 (by decide) (hin 1 (by decide)) ?_
  refine k_invV (As := [_]) dL_law_497 mm_X7_seed wL_L_114 ⟨by decide, by decide⟩ hV.2.1.1.1 hV.2.1.1.2 rfl rfl (Nat.le_of_ble_eq_true rfl) (Nat.zero_le _) (Nat.zero_le _) (hm _ (fun b σ2 g1 g2 g3 => ⟨rfl, ?_⟩))
  refine k_istore (lv' := [(7, _), (6, _), (5, _), (4, _), (3, _), (2, _), (1, _), (0, _)]) dL_law_500 (by decide) rfl ?_
  refine k_aload_n 2 dL_law_502 rfl rfl ?_
  refine k_invV (As := []) dL_law_503 mm_X7_thrown wL_L_93 ⟨by decide, by decide⟩ hV.2.1.1.1 hV.2.1.1.2 rfl rfl (Nat.le_of_ble_eq_true rfl) (Nat.zero_le _) (Nat.zero_le _) (m_X7_thrown hV.2.1 ⟨rfl, ?_⟩)
  refine k_iload dL_law_506 rfl ?_
  rw [g1]
  refine k_icmpeq 513 dL_law_508 (by decide) (fun h508 => ?_) (fun h508 => ?_)
  · refine k_iload dL_law_513 rfl ?_
    refine k_ifne 530 dL_law_515 (by decide) (fun h515 => ?_) (fun h515 => ?_)
    · refine k_goto 1775 dL_law_530 (by decide) ?_
      refine k_re [5, 4, 3, 2, 1, 0] (lv' := [(5, _), (4, _), (3, _), (2, _), (1, _), (0, _)]) rfl ?_
      exact k _ _ g3
    · refine k_aload_n 3 dL_law_518 rfl rfl ?_
      refine k_iconst (0) dL_law_519 (by decide) ?_
      refine k_laload dL_law_520 hV.2.2.1.1 hV.2.2.1.2 (vp_in_nI (n := 0) (by decide) (by decide)) ?_
      refine k_iload dL_law_521 rfl ?_
      refine k_i2l dL_law_523 ?_
      refine k_lcmp dL_law_524 ?_
      rw [g2 h515, show τ1 133 (Int32.toNatClampNeg 0) = v.toInt64 from h1 h515, kr_lcmp]
      refine k_ifeq 530 dL_law_525 (by decide) (fun h525 => ?_) (fun h525 => ?_)
      · refine k_goto 1775 dL_law_530 (by decide) ?_
        refine k_re [5, 4, 3, 2, 1, 0] (lv' := [(5, _), (4, _), (3, _), (2, _), (1, _), (0, _)]) rfl ?_
        exact k _ _ g3
      · exact absurd rfl h525
  · exact absurd rfl h508

set_option maxRecDepth 100000 in
set_option maxHeartbeats 4000000 in
theorem c_fire {X : kn_X} {σ : kn_S} {τ : kn_T} {z : kn_Z} {B c n i : Nat} {Q : kn_Q} (hV : kr_V z) (W : kr_Ws σ B) (hB : B + 2000 < 16777216) (hi : i + 5 ≤ X.1) (hX : X.1 < 2 ^ 31) (k : ∀ (σ9 : kn_S) (τ9 : kn_T), kr_Ws σ9 (B + 1000) → kn_Go X ML_law 1775 [(5, .int (nI i)), (4, .ref 134), (3, .ref 133), (2, .ref 128), (1, .ref 0), (0, .retAddr 0)] [] σ9 τ9 z c n Q) : kn_Go X ML_law 533 [(5, .int (nI i)), (4, .ref 134), (3, .ref 133), (2, .ref 128), (1, .ref 0), (0, .retAddr 0)] [] σ τ z (c + 2) (n + 12) Q := by
  have hin : ∀ j : Nat, j < 5 → vp_in (nI i + nI j) X.1 := fun j hj => by rw [nI_add]; exact vp_in_nI (by omega) hX
  refine k_aload_n 1 dL_law_533 rfl rfl ?_
  refine k_aload_nR 0 dL_law_534 rfl rfl ?_
  refine k_iload dL_law_535 rfl ?_
  refine k_iconst (1) dL_law_537 (by decide) ?_
  refine k_iadd dL_law_538 ?_
  refine k_roload dL_law_539 (by decide) (hin 1 (by decide)) ?_
  refine k_aload_nR 0 dL_law_540 rfl rfl ?_
  refine k_iload dL_law_541 rfl ?_
  refine k_iconst (2) dL_law_543 (by decide) ?_
  refine k_iadd dL_law_544 ?_
  refine k_roload dL_law_545 (by decide) (hin 2 (by decide)) ?_
  refine k_aload_nR 0 dL_law_546 rfl rfl ?_
  refine k_iload dL_law_547 rfl ?_
  refine k_iconst (3) dL_law_549 (by decide) ?_
  refine k_iadd dL_law_550 ?_
  refine k_roload dL_law_551 (by decide) (hin 3 (by decide)) ?_
  refine k_aload_n 3 dL_law_552 rfl rfl ?_
  refine k_invSH (As := [_, _, _, _, _]) dL_law_553 mm_L_fire wL_L_115 ⟨by decide, by decide⟩ rfl rfl (Nat.le_of_ble_eq_true rfl) (c1 := 2) (n1 := 12) (by omega) (by omega) (cs_fire _ _ _ hV W (by omega) _ (fun κ v σ1 τ1 h1 hm => ⟨rfl, ?_⟩))
  show kn_Go X ML_law 556 _ _ σ1 τ1 z (c + 2 - 2) (n + 12 - 12) Q; rw [Nat.add_sub_cancel, Nat.add_sub_cancel]
  refine k_istore (lv' := [(6, _), (5, _), (4, _), (3, _), (2, _), (1, _), (0, _)]) dL_law_556 (by decide) rfl ?_
  refine k_aload_n 2 dL_law_558 rfl rfl ?_
  refine k_aload_nR 0 dL_law_559 rfl rfl ?_
  refine k_iload dL_law_560 rfl ?_
  refine k_iconst (1) dL_law_562 (by decide) ?_
  refine k_iadd dL_law_563 ?_
  refine k_roload dL_law_564 (by decide) (hin 1 (by decide)) ?_
  refine k_aload_nR 0 dL_law_565 rfl rfl ?_
  refine k_iload dL_law_566 rfl ?_
  refine k_iconst (2) dL_law_568 (by decide) ?_
  refine k_iadd dL_law_569 ?_
  refine k_roload dL_law_570 (by decide) (hin 2 (by decide)) ?_
  refine k_aload_nR 0 dL_law_571 rfl rfl ?_
  refine k_iload dL_law_572 rfl ?_
  refine k_iconst (3) dL_law_574 (by decide) ?_
  refine k_iadd dL_law_575 ?_
  refine k_roload dL_law_576 (by decide) (hin 3 (by decide)) ?_
  refine k_invV (As := [_, _, _]) dL_law_577 mm_X7_fire wL_L_117 ⟨by decide, by decide⟩ hV.2.1.1.1 hV.2.1.1.2 rfl rfl (Nat.le_of_ble_eq_true rfl) (Nat.zero_le _) (Nat.zero_le _) (hm _ (fun b σ2 g1 g2 g3 => ⟨rfl, ?_⟩))
  refine k_istore (lv' := [(7, _), (6, _), (5, _), (4, _), (3, _), (2, _), (1, _), (0, _)]) dL_law_580 (by decide) rfl ?_
  refine k_aload_n 2 dL_law_582 rfl rfl ?_
  refine k_invV (As := []) dL_law_583 mm_X7_thrown wL_L_93 ⟨by decide, by decide⟩ hV.2.1.1.1 hV.2.1.1.2 rfl rfl (Nat.le_of_ble_eq_true rfl) (Nat.zero_le _) (Nat.zero_le _) (m_X7_thrown hV.2.1 ⟨rfl, ?_⟩)
  refine k_iload dL_law_586 rfl ?_
  rw [g1]
  refine k_icmpeq 593 dL_law_588 (by decide) (fun h588 => ?_) (fun h588 => ?_)
  · refine k_iload dL_law_593 rfl ?_
    refine k_ifne 610 dL_law_595 (by decide) (fun h595 => ?_) (fun h595 => ?_)
    · refine k_goto 1775 dL_law_610 (by decide) ?_
      refine k_re [5, 4, 3, 2, 1, 0] (lv' := [(5, _), (4, _), (3, _), (2, _), (1, _), (0, _)]) rfl ?_
      exact k _ _ g3
    · refine k_aload_n 3 dL_law_598 rfl rfl ?_
      refine k_iconst (0) dL_law_599 (by decide) ?_
      refine k_laload dL_law_600 hV.2.2.1.1 hV.2.2.1.2 (vp_in_nI (n := 0) (by decide) (by decide)) ?_
      refine k_iload dL_law_601 rfl ?_
      refine k_i2l dL_law_603 ?_
      refine k_lcmp dL_law_604 ?_
      rw [g2 h595, show τ1 133 (Int32.toNatClampNeg 0) = v.toInt64 from h1 h595, kr_lcmp]
      refine k_ifeq 610 dL_law_605 (by decide) (fun h605 => ?_) (fun h605 => ?_)
      · refine k_goto 1775 dL_law_610 (by decide) ?_
        refine k_re [5, 4, 3, 2, 1, 0] (lv' := [(5, _), (4, _), (3, _), (2, _), (1, _), (0, _)]) rfl ?_
        exact k _ _ g3
      · exact absurd rfl h605
  · exact absurd rfl h588

set_option maxRecDepth 100000 in
set_option maxHeartbeats 4000000 in
theorem c_drive {X : kn_X} {σ : kn_S} {τ : kn_T} {z : kn_Z} {B c n i : Nat} {Q : kn_Q} (hV : kr_V z) (W : kr_Ws σ B) (hB : B + 2000 < 16777216) (hi : i + 5 ≤ X.1) (hX : X.1 < 2 ^ 31) (k : ∀ (σ9 : kn_S) (τ9 : kn_T), kr_Ws σ9 (B + 1000) → kn_Go X ML_law 1775 [(5, .int (nI i)), (4, .ref 134), (3, .ref 133), (2, .ref 128), (1, .ref 0), (0, .retAddr 0)] [] σ9 τ9 z c n Q) : kn_Go X ML_law 613 [(5, .int (nI i)), (4, .ref 134), (3, .ref 133), (2, .ref 128), (1, .ref 0), (0, .retAddr 0)] [] σ τ z (c + 2) (n + 12) Q := by
  have hin : ∀ j : Nat, j < 5 → vp_in (nI i + nI j) X.1 := fun j hj => by rw [nI_add]; exact vp_in_nI (by omega) hX
  refine k_aload_n 1 dL_law_613 rfl rfl ?_
  refine k_aload_nR 0 dL_law_614 rfl rfl ?_
  refine k_iload dL_law_615 rfl ?_
  refine k_iconst (1) dL_law_617 (by decide) ?_
  refine k_iadd dL_law_618 ?_
  refine k_roload dL_law_619 (by decide) (hin 1 (by decide)) ?_
  refine k_aload_nR 0 dL_law_620 rfl rfl ?_
  refine k_iload dL_law_621 rfl ?_
  refine k_iconst (2) dL_law_623 (by decide) ?_
  refine k_iadd dL_law_624 ?_
  refine k_roload dL_law_625 (by decide) (hin 2 (by decide)) ?_
  refine k_aload_nR 0 dL_law_626 rfl rfl ?_
  refine k_iload dL_law_627 rfl ?_
  refine k_iconst (3) dL_law_629 (by decide) ?_
  refine k_iadd dL_law_630 ?_
  refine k_roload dL_law_631 (by decide) (hin 3 (by decide)) ?_
  refine k_aload_nR 0 dL_law_632 rfl rfl ?_
  refine k_iload dL_law_633 rfl ?_
  refine k_iconst (4) dL_law_635 (by decide) ?_
  refine k_iadd dL_law_636 ?_
  refine k_roload dL_law_637 (by decide) (hin 4 (by decide)) ?_
  refine k_aload_n 3 dL_law_638 rfl rfl ?_
  refine k_invSH (As := [_, _, _, _, _, _]) dL_law_639 mm_L_drive wL_L_118 ⟨by decide, by decide⟩ rfl rfl (Nat.le_of_ble_eq_true rfl) (c1 := 2) (n1 := 12) (by omega) (by omega) (cs_drive _ _ _ _ hV W (by omega) _ (fun κ v σ1 τ1 h1 hm => ⟨rfl, ?_⟩))
  show kn_Go X ML_law 642 _ _ σ1 τ1 z (c + 2 - 2) (n + 12 - 12) Q; rw [Nat.add_sub_cancel, Nat.add_sub_cancel]
  refine k_istore (lv' := [(6, _), (5, _), (4, _), (3, _), (2, _), (1, _), (0, _)]) dL_law_642 (by decide) rfl ?_
  refine k_aload_n 2 dL_law_644 rfl rfl ?_
  refine k_aload_nR 0 dL_law_645 rfl rfl ?_
  refine k_iload dL_law_646 rfl ?_
  refine k_iconst (1) dL_law_648 (by decide) ?_
  refine k_iadd dL_law_649 ?_
  refine k_roload dL_law_650 (by decide) (hin 1 (by decide)) ?_
  refine k_aload_nR 0 dL_law_651 rfl rfl ?_
  refine k_iload dL_law_652 rfl ?_
  refine k_iconst (2) dL_law_654 (by decide) ?_
  refine k_iadd dL_law_655 ?_
  refine k_roload dL_law_656 (by decide) (hin 2 (by decide)) ?_
  refine k_aload_nR 0 dL_law_657 rfl rfl ?_
  refine k_iload dL_law_658 rfl ?_
  refine k_iconst (3) dL_law_660 (by decide) ?_
  refine k_iadd dL_law_661 ?_
  refine k_roload dL_law_662 (by decide) (hin 3 (by decide)) ?_
  refine k_aload_nR 0 dL_law_663 rfl rfl ?_
  refine k_iload dL_law_664 rfl ?_
  refine k_iconst (4) dL_law_666 (by decide) ?_
  refine k_iadd dL_law_667 ?_
  refine k_roload dL_law_668 (by decide) (hin 4 (by decide)) ?_
  refine k_invV (As := [_, _, _, _]) dL_law_669 mm_X7_drive wL_L_121 ⟨by decide, by decide⟩ hV.2.1.1.1 hV.2.1.1.2 rfl rfl (Nat.le_of_ble_eq_true rfl) (Nat.zero_le _) (Nat.zero_le _) (hm _ (fun b σ2 g1 g2 g3 => ⟨rfl, ?_⟩))
  refine k_istore (lv' := [(7, _), (6, _), (5, _), (4, _), (3, _), (2, _), (1, _), (0, _)]) dL_law_672 (by decide) rfl ?_
  refine k_aload_n 2 dL_law_674 rfl rfl ?_
  refine k_invV (As := []) dL_law_675 mm_X7_thrown wL_L_93 ⟨by decide, by decide⟩ hV.2.1.1.1 hV.2.1.1.2 rfl rfl (Nat.le_of_ble_eq_true rfl) (Nat.zero_le _) (Nat.zero_le _) (m_X7_thrown hV.2.1 ⟨rfl, ?_⟩)
  refine k_iload dL_law_678 rfl ?_
  rw [g1]
  refine k_icmpeq 685 dL_law_680 (by decide) (fun h680 => ?_) (fun h680 => ?_)
  · refine k_iload dL_law_685 rfl ?_
    refine k_ifne 702 dL_law_687 (by decide) (fun h687 => ?_) (fun h687 => ?_)
    · refine k_goto 1775 dL_law_702 (by decide) ?_
      refine k_re [5, 4, 3, 2, 1, 0] (lv' := [(5, _), (4, _), (3, _), (2, _), (1, _), (0, _)]) rfl ?_
      exact k _ _ g3
    · refine k_aload_n 3 dL_law_690 rfl rfl ?_
      refine k_iconst (0) dL_law_691 (by decide) ?_
      refine k_laload dL_law_692 hV.2.2.1.1 hV.2.2.1.2 (vp_in_nI (n := 0) (by decide) (by decide)) ?_
      refine k_iload dL_law_693 rfl ?_
      refine k_i2l dL_law_695 ?_
      refine k_lcmp dL_law_696 ?_
      rw [g2 h687, show τ1 133 (Int32.toNatClampNeg 0) = v.toInt64 from h1 h687, kr_lcmp]
      refine k_ifeq 702 dL_law_697 (by decide) (fun h697 => ?_) (fun h697 => ?_)
      · refine k_goto 1775 dL_law_702 (by decide) ?_
        refine k_re [5, 4, 3, 2, 1, 0] (lv' := [(5, _), (4, _), (3, _), (2, _), (1, _), (0, _)]) rfl ?_
        exact k _ _ g3
      · exact absurd rfl h697
  · exact absurd rfl h680

