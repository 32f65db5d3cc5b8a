-- every row is fit
theorem kw_m1 {x : Int32} (h : x = -1 ∨ ∃ cl, cl < 24 ∧ x = nI cl) : ¬ x < -1 := by
  rcases h with rfl | ⟨cl, h1, rfl⟩
  · decide
  · intro w
    rw [Int32.lt_iff_toInt_lt, nI_toInt (by omega)] at w
    have : (-1 : Int32).toInt = -1 := by decide
    omega
theorem kw_24 {x : Int32} (h : x = -1 ∨ ∃ cl, cl < 24 ∧ x = nI cl) : ¬ 24 ≤ x := by
  rcases h with rfl | ⟨cl, h1, rfl⟩
  · decide
  · exact nI_ge (a := cl) (b := 24) h1 (by decide)

set_option maxRecDepth 100000 in
set_option maxHeartbeats 4000000 in
theorem m_L_areFit {X : kn_X} {σ : kn_S} {τ : kn_T} {z : kn_Z} {Q : kn_Q} {B m fi : Nat} {g : Nat → Int32} {l : List kw_G} {x : Int32} (hK : kn_isK z) (W : kw_W σ B g m fi l) (hB : B + 1000 < 1000000000) (hQ : Q (.inl (some (.int 1))) σ τ z) : kn_Ev X ML_areFit [.ref 0, .int x] σ τ z 1400 8400 Q := by
  obtain ⟨⟨h, hfi, hJ⟩, -⟩ := W
  have hm := h.1.2.2.1.2
  obtain ⟨lc, kd, fn, ⟨hlc, hl⟩, hev, hmono, hcnt⟩ := hJ.1.2.2.2.2
  obtain ⟨kn, hkn, hsum⟩ := h.1.2.2.2.2.2.2.2.2.2
  rw [kw_ksE hm.2 hkn hsum (by omega) (by omega)] at hcnt
  obtain ⟨lo9, go9, hs1, hs2, hs3, hs4, hs5, hs6⟩ := hJ.2
  have hun := kw_unfI h.1.2.2 hJ.1.2.1
  refine kn_entry (by decide +kernel) rfl (Nat.le_of_ble_eq_true rfl) ?_
  show kn_Go X ML_areFit 0 [(0, .ref 0), (1, .int x)] [] _ _ _ _ _ _
  have lp500 : ∀ r9 : Nat, ∀ (k : Nat), 1 ≤ k → k + r9 = max 1 lc → ∀ (sp lo cl : Nat), 500 ≤ sp → sp ≤ 7000 → lo ≤ 100 → kf_cell (nI sp) (nI lo) = nI cl → cl < 24 → kn_Go X ML_areFit 500 [(7, .int (nI k)), (6, .int (nI (kr_sum (fun k => kw_cnt kd k lc) 5))), (5, .int (nI (kr_sum kn m))), (4, .int 1), (3, .int (nI lo)), (2, .int (nI sp)), (1, .int x), (0, .ref 0)] [] σ τ z (6 * r9 + 2) (36 * r9 + 12) Q := by
    intro r9
    induction r9 with
    | zero =>
      intro k hk1 hk sp lo cl h1 h2 h3 hce hcl 
      have hk9 : lc ≤ k := by omega
      refine k_iload dL_areFit_500 rfl ?_
      refine k_aload_n 0 dL_areFit_502 rfl rfl ?_
      refine k_invV (As := []) dL_areFit_503 mm_X6_events wL_L_95 ⟨by decide, by decide⟩ hK.1.1 hK.1.2 rfl rfl (Nat.le_of_ble_eq_true rfl) (Nat.zero_le _) (Nat.zero_le _) (cw_events hK h ⟨rfl, ?_⟩)
      rw [hl]
      refine k_icmpge 560 dL_areFit_506 (by decide) (fun h506 => ?_) (fun h506 => ?_)
      · refine k_iload dL_areFit_560 rfl ?_
        refine k_ifeq 614 dL_areFit_562 (by decide) (fun h562 => ?_) (fun h562 => ?_)
        · exact absurd h562 (by decide)
        · refine k_iload dL_areFit_565 rfl ?_
          refine k_aload_n 0 dL_areFit_567 rfl rfl ?_
          refine k_invV (As := []) dL_areFit_568 mm_X6_events wL_L_95 ⟨by decide, by decide⟩ hK.1.1 hK.1.2 rfl rfl (Nat.le_of_ble_eq_true rfl) (Nat.zero_le _) (Nat.zero_le _) (cw_events hK h ⟨rfl, ?_⟩)
          rw [hl, kw_cntSum (fun i hi => (hev i hi).2.1)]
          refine k_icmpne 614 dL_areFit_571 (by decide) (fun h571 => ?_) (fun h571 => ?_)
          · exact absurd rfl h571
          · refine k_aload_n 0 dL_areFit_574 rfl rfl ?_
            refine k_iconst (0) dL_areFit_575 (by decide) ?_
            refine k_invSH2 (0) (0) (As := [_, _]) dL_areFit_576 mm_L_eventsOf wL_L_143 ⟨by decide, by decide⟩ rfl rfl (Nat.le_of_ble_eq_true rfl) (by omega) (by omega) (cw_eventsOf (k := 0) hK h hl hlc (by omega) ⟨rfl, ?_⟩)
            refine k_iload dL_areFit_579 rfl ?_
            rw [kw_evoE (fun i hi => ⟨(hev i hi).1, (hev i hi).2.1⟩) (show 0 ≤ 4 by omega) lc (Nat.le_refl _)]
            refine k_icmpgt 614 dL_areFit_581 (by decide) (fun h581 => ?_) (fun h581 => ?_)
            · exact absurd h581 (nI_nlt (by omega) (by omega))
            · refine k_iload dL_areFit_584 rfl ?_
              refine k_aload_n 0 dL_areFit_586 rfl rfl ?_
              refine k_invV (As := []) dL_areFit_587 mm_X6_firings wL_L_92 ⟨by decide, by decide⟩ hK.1.1 hK.1.2 rfl rfl (Nat.le_of_ble_eq_true rfl) (Nat.zero_le _) (Nat.zero_le _) (cw_firings hK h ⟨rfl, ?_⟩)
              refine k_icmpgt 614 dL_areFit_590 (by decide) (fun h590 => ?_) (fun h590 => ?_)
              · exact absurd h590 (nI_nlt (by omega) (by omega))
              · refine k_aload_n 0 dL_areFit_593 rfl rfl ?_
                refine k_invV (As := []) dL_areFit_594 mm_X6_unfairness wL_L_157 ⟨by decide, by decide⟩ hK.1.1 hK.1.2 rfl rfl (Nat.le_of_ble_eq_true rfl) (Nat.zero_le _) (Nat.zero_le _) (cw_unfairness hK h ⟨rfl, ?_⟩)
                refine k_iflt 614 dL_areFit_597 (by decide) (fun h597 => ?_) (fun h597 => ?_)
                · exact absurd h597 (kw_ge0 hun (by decide))
                · refine k_aload_n 0 dL_areFit_600 rfl rfl ?_
                  refine k_invV (As := []) dL_areFit_601 mm_X6_unfairness wL_L_157 ⟨by decide, by decide⟩ hK.1.1 hK.1.2 rfl rfl (Nat.le_of_ble_eq_true rfl) (Nat.zero_le _) (Nat.zero_le _) (cw_unfairness hK h ⟨rfl, ?_⟩)
                  refine k_sipush (200) dL_areFit_604 (by decide) ?_
                  refine k_icmpgt 614 dL_areFit_607 (by decide) (fun h607 => ?_) (fun h607 => ?_)
                  · exact absurd h607 (kw_leN (N := 200) hun (by decide))
                  · refine k_iconst (1) dL_areFit_610 (by decide) ?_
                    refine k_goto 615 dL_areFit_611 (by decide) ?_
                    refine k_iret dL_areFit_615 rfl (rfl) ?_
                    exact hQ
      · exact absurd (nI_le hk9 (by omega)) h506
    | succ r9 ih =>
      intro k hk1 hk sp lo cl h1 h2 h3 hce hcl 
      refine k_iload dL_areFit_500 rfl ?_
      refine k_aload_n 0 dL_areFit_502 rfl rfl ?_
      refine k_invV (As := []) dL_areFit_503 mm_X6_events wL_L_95 ⟨by decide, by decide⟩ hK.1.1 hK.1.2 rfl rfl (Nat.le_of_ble_eq_true rfl) (Nat.zero_le _) (Nat.zero_le _) (cw_events hK h ⟨rfl, ?_⟩)
      rw [hl]
      refine k_icmpge 560 dL_areFit_506 (by decide) (fun h506 => ?_) (fun h506 => ?_)
      · exact absurd h506 (nI_ge (by omega) (by omega))
      · refine k_iload dL_areFit_509 rfl ?_
        refine k_ifeq 560 dL_areFit_511 (by decide) (fun h511 => ?_) (fun h511 => ?_)
        · exact absurd h511 (by decide)
        · refine k_aload_n 0 dL_areFit_514 rfl rfl ?_
          refine k_iload dL_areFit_515 rfl ?_
          refine k_iconst (1) dL_areFit_517 (by decide) ?_
          refine k_isub dL_areFit_518 ?_
          rw [show nI k - 1 = nI (k - 1) from by obtain ⟨k9, rfl⟩ : ∃ k9, k = k9 + 1 := ⟨k - 1, by omega⟩; exact nI_pred k9]
          refine k_iconst (2) dL_areFit_519 (by decide) ?_
          refine k_invSH2 (6 * r9 + 6) (36 * r9 + 36) (As := [_, _, _]) dL_areFit_520 mm_L_event wL_L_113 ⟨by decide, by decide⟩ rfl rfl (Nat.le_of_ble_eq_true rfl) (by omega) (by omega) (cw_event (i := k - 1) (w := 2) hK h hl hlc (by omega) (by omega) ⟨rfl, ?_⟩)
          refine k_aload_n 0 dL_areFit_523 rfl rfl ?_
          refine k_iload dL_areFit_524 rfl ?_
          refine k_iconst (2) dL_areFit_526 (by decide) ?_
          refine k_invSH2 (6 * r9 + 4) (36 * r9 + 24) (As := [_, _, _]) dL_areFit_527 mm_L_event wL_L_113 ⟨by decide, by decide⟩ rfl rfl (Nat.le_of_ble_eq_true rfl) (by omega) (by omega) (cw_event (i := k) (w := 2) hK h hl hlc (by omega) (by omega) ⟨rfl, ?_⟩)
          rw [(hev (k - 1) (by omega)).2.2.1, (hev k (by omega)).2.2.1]
          refine k_icmpgt 551 dL_areFit_530 (by decide) (fun h530 => ?_) (fun h530 => ?_)
          · exact absurd h530 (nI_nlt (by have := hmono (k - 1) (by omega); rw [show k - 1 + 1 = k by omega] at this; exact this) (by have := (hev k (by omega)).2.2.2; omega))
          · refine k_aload_n 0 dL_areFit_533 rfl rfl ?_
            refine k_iload dL_areFit_534 rfl ?_
            refine k_iconst (2) dL_areFit_536 (by decide) ?_
            refine k_invSH2 (6 * r9 + 2) (36 * r9 + 12) (As := [_, _, _]) dL_areFit_537 mm_L_event wL_L_113 ⟨by decide, by decide⟩ rfl rfl (Nat.le_of_ble_eq_true rfl) (by omega) (by omega) (cw_event (i := k) (w := 2) hK h hl hlc (by omega) (by omega) ⟨rfl, ?_⟩)
            refine k_aload_n 0 dL_areFit_540 rfl rfl ?_
            refine k_invV (As := []) dL_areFit_541 mm_X6_firings wL_L_92 ⟨by decide, by decide⟩ hK.1.1 hK.1.2 rfl rfl (Nat.le_of_ble_eq_true rfl) (Nat.zero_le _) (Nat.zero_le _) (cw_firings hK h ⟨rfl, ?_⟩)
            rw [(hev k (by omega)).2.2.1]
            refine k_icmpge 551 dL_areFit_544 (by decide) (fun h544 => ?_) (fun h544 => ?_)
            · exact absurd h544 (nI_ge (hev k (by omega)).2.2.2 (by omega))
            · refine k_iconst (1) dL_areFit_547 (by decide) ?_
              refine k_goto 552 dL_areFit_548 (by decide) ?_
              refine k_istore (lv' := [(4, _), (7, _), (6, _), (5, _), (3, _), (2, _), (1, _), (0, _)]) dL_areFit_552 (by decide) rfl ?_
              refine k_iinc (nI (k + 1)) (lv' := [(7, _), (4, _), (6, _), (5, _), (3, _), (2, _), (1, _), (0, _)]) dL_areFit_554 rfl (kn_inc k) (by decide) rfl ?_
              refine k_goto 500 dL_areFit_557 (by decide) ?_
              refine k_re [7, 6, 5, 4, 3, 2, 1, 0] (lv' := [(7, _), (6, _), (5, _), (4, _), (3, _), (2, _), (1, _), (0, _)]) rfl ?_
              refine k_room (c' := 6 * r9 + 2) (n' := 36 * r9 + 12) (by omega) (by omega) (ih (k + 1) (by omega) (by omega) sp lo cl h1 h2 h3 hce hcl)
  have lp474 : ∀ r9 : Nat, ∀ (k : Nat), k + r9 = 5 → ∀ (sp lo cl : Nat), 500 ≤ sp → sp ≤ 7000 → lo ≤ 100 → kf_cell (nI sp) (nI lo) = nI cl → cl < 24 → kn_Go X ML_areFit 474 [(7, .int (nI k)), (6, .int (nI (kr_sum (fun k => kw_cnt kd k lc) k))), (5, .int (nI (kr_sum kn m))), (4, .int 1), (3, .int (nI lo)), (2, .int (nI sp)), (1, .int x), (0, .ref 0)] [] σ τ z (2 * r9 + 362) (12 * r9 + 2172) Q := by
    intro r9
    induction r9 with
    | zero =>
      intro k hk sp lo cl h1 h2 h3 hce hcl 
      obtain rfl : k = 5 := by omega
      refine k_iload dL_areFit_474 rfl ?_
      refine k_iconst (5) dL_areFit_476 (by decide) ?_
      refine k_icmpge 497 dL_areFit_477 (by decide) (fun h477 => ?_) (fun h477 => ?_)
      · refine k_iconst (1) dL_areFit_497 (by decide) ?_
        refine k_istore (lv' := [(7, _), (6, _), (5, _), (4, _), (3, _), (2, _), (1, _), (0, _)]) dL_areFit_498 (by decide) rfl ?_
        refine k_room (c' := 6 * (max 1 lc - 1) + 2) (n' := 36 * (max 1 lc - 1) + 12) (by omega) (by omega) (lp500 (max 1 lc - 1) 1 (Nat.le_refl 1) (by omega) sp lo cl h1 h2 h3 hce hcl)
      · exact absurd (show (5 : Int32) ≤ nI 5 from nI_le (Nat.le_refl 5) (by decide)) h477
    | succ r9 ih =>
      intro k hk sp lo cl h1 h2 h3 hce hcl 
      refine k_iload dL_areFit_474 rfl ?_
      refine k_iconst (5) dL_areFit_476 (by decide) ?_
      refine k_icmpge 497 dL_areFit_477 (by decide) (fun h477 => ?_) (fun h477 => ?_)
      · exact absurd h477 (show ¬ (5 : Int32) ≤ nI k from nI_ge (a := k) (b := 5) (by omega) (by decide))
      · refine k_iload dL_areFit_480 rfl ?_
        refine k_aload_n 0 dL_areFit_482 rfl rfl ?_
        refine k_iload dL_areFit_483 rfl ?_
        refine k_invSH2 (2 * r9 + 362) (12 * r9 + 2172) (As := [_, _]) dL_areFit_485 mm_L_eventsOf wL_L_143 ⟨by decide, by decide⟩ rfl rfl (Nat.le_of_ble_eq_true rfl) (by omega) (by omega) (cw_eventsOf hK h hl hlc (show k ≤ 4 by omega) ⟨rfl, ?_⟩)
        refine k_iadd dL_areFit_488 ?_
        rw [kw_evoE (fun i hi => ⟨(hev i hi).1, (hev i hi).2.1⟩) (show k ≤ 4 by omega) lc (Nat.le_refl _), nI_add]
        refine k_istore (lv' := [(6, _), (7, _), (5, _), (4, _), (3, _), (2, _), (1, _), (0, _)]) dL_areFit_489 (by decide) rfl ?_
        refine k_iinc (nI (k + 1)) (lv' := [(7, _), (6, _), (5, _), (4, _), (3, _), (2, _), (1, _), (0, _)]) dL_areFit_491 rfl (kn_inc k) (by decide) rfl ?_
        refine k_goto 474 dL_areFit_494 (by decide) ?_
        refine k_room (c' := 2 * r9 + 362) (n' := 12 * r9 + 2172) (by omega) (by omega) (ih (k + 1) (by omega) sp lo cl h1 h2 h3 hce hcl)
  have lp361 : ∀ r9 : Nat, ∀ (k : Nat), k + r9 = 24 → ∀ (sp lo cl : Nat), 500 ≤ sp → sp ≤ 7000 → lo ≤ 100 → kf_cell (nI sp) (nI lo) = nI cl → cl < 24 → kn_Go X ML_areFit 361 [(6, .int (nI k)), (5, .int (nI (kr_sum kn m))), (4, .int 1), (3, .int (nI lo)), (2, .int (nI sp)), (1, .int x), (0, .ref 0)] [] σ τ z (12 * r9 + 372) (72 * r9 + 2232) Q := by
    intro r9
    induction r9 with
    | zero =>
      intro k hk sp lo cl h1 h2 h3 hce hcl 
      obtain rfl : k = 24 := by omega
      refine k_iload dL_areFit_361 rfl ?_
      refine k_bipush (24) dL_areFit_363 (by decide) ?_
      refine k_icmpge 468 dL_areFit_365 (by decide) (fun h365 => ?_) (fun h365 => ?_)
      · refine k_iconst (0) dL_areFit_468 (by decide) ?_
        refine k_istore (lv' := [(6, _), (5, _), (4, _), (3, _), (2, _), (1, _), (0, _)]) dL_areFit_469 (by decide) rfl ?_
        refine k_iconst (0) dL_areFit_471 (by decide) ?_
        refine k_istore (lv' := [(7, _), (6, _), (5, _), (4, _), (3, _), (2, _), (1, _), (0, _)]) dL_areFit_472 (by decide) rfl ?_
        refine k_room (c' := 2 * 5 + 362) (n' := 12 * 5 + 2172) (by omega) (by omega) (lp474 5 0 (Nat.zero_add _) sp lo cl h1 h2 h3 hce hcl)
      · exact absurd (show (24 : Int32) ≤ nI 24 from nI_le (Nat.le_refl 24) (by decide)) h365
    | succ r9 ih =>
      intro k hk sp lo cl h1 h2 h3 hce hcl 
      refine k_iload dL_areFit_361 rfl ?_
      refine k_bipush (24) dL_areFit_363 (by decide) ?_
      refine k_icmpge 468 dL_areFit_365 (by decide) (fun h365 => ?_) (fun h365 => ?_)
      · exact absurd h365 (show ¬ (24 : Int32) ≤ nI k from nI_ge (a := k) (b := 24) (by omega) (by decide))
      · refine k_iload dL_areFit_368 rfl ?_
        refine k_ifeq 468 dL_areFit_370 (by decide) (fun h370 => ?_) (fun h370 => ?_)
        · exact absurd h370 (by decide)
        · refine k_aload_n 0 dL_areFit_373 rfl rfl ?_
          refine k_iload dL_areFit_374 rfl ?_
          refine k_iconst (4) dL_areFit_376 (by decide) ?_
          refine k_idiv dL_areFit_377 (by decide) ?_
          refine k_iload dL_areFit_378 rfl ?_
          refine k_iconst (4) dL_areFit_380 (by decide) ?_
          refine k_irem dL_areFit_381 (by decide) ?_
          rw [show nI k / 4 = nI (k / 4) from kw_div (d := 4) (by omega) (by decide) (by decide), show nI k - nI (k / 4) * 4 = nI (k % 4) from by rw [← kw_div (d := 4) (by omega) (by decide) (by decide)]; exact kw_mod_ (d := 4) (by omega) (by decide) (by decide)]
          refine k_invSH2 (12 * r9 + 382) (72 * r9 + 2292) (As := [_, _, _]) dL_areFit_382 mm_L_learned wL_L_111 ⟨by decide, by decide⟩ rfl rfl (Nat.le_of_ble_eq_true rfl) (by omega) (by omega) (cw_learned hK h (show k / 4 ≤ 5 by omega) (show k % 4 ≤ 3 by omega) ⟨rfl, ?_⟩)
          refine k_iflt 459 dL_areFit_385 (by decide) (fun h385 => ?_) (fun h385 => ?_)
          · exact absurd h385 (kw_ge0 (h.1.2.2.2.2.2.2.2.2.1 (4 * (k / 4) + k % 4) (by omega)) (by decide))
          · refine k_aload_n 0 dL_areFit_388 rfl rfl ?_
            refine k_iload dL_areFit_389 rfl ?_
            refine k_iconst (4) dL_areFit_391 (by decide) ?_
            refine k_idiv dL_areFit_392 (by decide) ?_
            refine k_iload dL_areFit_393 rfl ?_
            refine k_iconst (4) dL_areFit_395 (by decide) ?_
            refine k_irem dL_areFit_396 (by decide) ?_
            rw [show nI k / 4 = nI (k / 4) from kw_div (d := 4) (by omega) (by decide) (by decide), show nI k - nI (k / 4) * 4 = nI (k % 4) from by rw [← kw_div (d := 4) (by omega) (by decide) (by decide)]; exact kw_mod_ (d := 4) (by omega) (by decide) (by decide)]
            refine k_invSH2 (12 * r9 + 380) (72 * r9 + 2280) (As := [_, _, _]) dL_areFit_397 mm_L_learned wL_L_111 ⟨by decide, by decide⟩ rfl rfl (Nat.le_of_ble_eq_true rfl) (by omega) (by omega) (cw_learned hK h (show k / 4 ≤ 5 by omega) (show k % 4 ≤ 3 by omega) ⟨rfl, ?_⟩)
            refine k_bipush (100) dL_areFit_400 (by decide) ?_
            refine k_icmpgt 459 dL_areFit_402 (by decide) (fun h402 => ?_) (fun h402 => ?_)
            · exact absurd h402 (kw_leN (N := 100) (h.1.2.2.2.2.2.2.2.2.1 (4 * (k / 4) + k % 4) (by omega)) (by decide))
            · refine k_aload_n 0 dL_areFit_405 rfl rfl ?_
              refine k_iload dL_areFit_406 rfl ?_
              refine k_iconst (4) dL_areFit_408 (by decide) ?_
              refine k_idiv dL_areFit_409 (by decide) ?_
              refine k_iconst (1) dL_areFit_410 (by decide) ?_
              refine k_iconst (1) dL_areFit_411 (by decide) ?_
              rw [show nI k / 4 = nI (k / 4) from kw_div (d := 4) (by omega) (by decide) (by decide)]
              refine k_invSH2 (12 * r9 + 378) (72 * r9 + 2268) (As := [_, _, _, _]) dL_areFit_412 mm_L_extreme wL_L_140 ⟨by decide, by decide⟩ rfl rfl (Nat.le_of_ble_eq_true rfl) (by omega) (by omega) (cw_extR hK h (show k / 4 ≤ 5 by omega) (fun e1 he1 => ⟨rfl, ?_⟩))
              refine k_aload_n 0 dL_areFit_415 rfl rfl ?_
              refine k_iload dL_areFit_416 rfl ?_
              refine k_iconst (4) dL_areFit_418 (by decide) ?_
              refine k_idiv dL_areFit_419 (by decide) ?_
              refine k_iload dL_areFit_420 rfl ?_
              refine k_iconst (4) dL_areFit_422 (by decide) ?_
              refine k_irem dL_areFit_423 (by decide) ?_
              rw [show nI k / 4 = nI (k / 4) from kw_div (d := 4) (by omega) (by decide) (by decide), show nI k - nI (k / 4) * 4 = nI (k % 4) from by rw [← kw_div (d := 4) (by omega) (by decide) (by decide)]; exact kw_mod_ (d := 4) (by omega) (by decide) (by decide)]
              refine k_invSH2 (12 * r9 + 376) (72 * r9 + 2256) (As := [_, _, _]) dL_areFit_424 mm_L_learned wL_L_111 ⟨by decide, by decide⟩ rfl rfl (Nat.le_of_ble_eq_true rfl) (by omega) (by omega) (cw_learned hK h (show k / 4 ≤ 5 by omega) (show k % 4 ≤ 3 by omega) ⟨rfl, ?_⟩)
              refine k_icmplt 459 dL_areFit_427 (by decide) (fun h427 => ?_) (fun h427 => ?_)
              · exact absurd h427 (fun w => by rw [Int32.lt_iff_toInt_lt] at w; have := he1 (k % 4) (by omega); omega)
              · refine k_aload_n 0 dL_areFit_430 rfl rfl ?_
                refine k_iload dL_areFit_431 rfl ?_
                refine k_iconst (4) dL_areFit_433 (by decide) ?_
                refine k_irem dL_areFit_434 (by decide) ?_
                refine k_iconst (0) dL_areFit_435 (by decide) ?_
                refine k_iconst (0) dL_areFit_436 (by decide) ?_
                rw [show nI k - nI k / 4 * 4 = nI (k % 4) from kw_mod_ (d := 4) (by omega) (by decide) (by decide)]
                refine k_invSH2 (12 * r9 + 374) (72 * r9 + 2244) (As := [_, _, _, _]) dL_areFit_437 mm_L_extreme wL_L_140 ⟨by decide, by decide⟩ rfl rfl (Nat.le_of_ble_eq_true rfl) (by omega) (by omega) (cw_extC hK h (show k % 4 ≤ 3 by omega) (fun e2 he2 => ⟨rfl, ?_⟩))
                refine k_aload_n 0 dL_areFit_440 rfl rfl ?_
                refine k_iload dL_areFit_441 rfl ?_
                refine k_iconst (4) dL_areFit_443 (by decide) ?_
                refine k_idiv dL_areFit_444 (by decide) ?_
                refine k_iload dL_areFit_445 rfl ?_
                refine k_iconst (4) dL_areFit_447 (by decide) ?_
                refine k_irem dL_areFit_448 (by decide) ?_
                rw [show nI k / 4 = nI (k / 4) from kw_div (d := 4) (by omega) (by decide) (by decide), show nI k - nI (k / 4) * 4 = nI (k % 4) from by rw [← kw_div (d := 4) (by omega) (by decide) (by decide)]; exact kw_mod_ (d := 4) (by omega) (by decide) (by decide)]
                refine k_invSH2 (12 * r9 + 372) (72 * r9 + 2232) (As := [_, _, _]) dL_areFit_449 mm_L_learned wL_L_111 ⟨by decide, by decide⟩ rfl rfl (Nat.le_of_ble_eq_true rfl) (by omega) (by omega) (cw_learned hK h (show k / 4 ≤ 5 by omega) (show k % 4 ≤ 3 by omega) ⟨rfl, ?_⟩)
                refine k_icmpgt 459 dL_areFit_452 (by decide) (fun h452 => ?_) (fun h452 => ?_)
                · exact absurd h452 (fun w => by rw [Int32.lt_iff_toInt_lt] at w; have := he2 (k / 4) (by omega); omega)
                · refine k_iconst (1) dL_areFit_455 (by decide) ?_
                  refine k_goto 460 dL_areFit_456 (by decide) ?_
                  refine k_istore (lv' := [(4, _), (6, _), (5, _), (3, _), (2, _), (1, _), (0, _)]) dL_areFit_460 (by decide) rfl ?_
                  refine k_iinc (nI (k + 1)) (lv' := [(6, _), (4, _), (5, _), (3, _), (2, _), (1, _), (0, _)]) dL_areFit_462 rfl (kn_inc k) (by decide) rfl ?_
                  refine k_goto 361 dL_areFit_465 (by decide) ?_
                  refine k_re [6, 5, 4, 3, 2, 1, 0] (lv' := [(6, _), (5, _), (4, _), (3, _), (2, _), (1, _), (0, _)]) rfl ?_
                  refine k_room (c' := 12 * r9 + 372) (n' := 72 * r9 + 2232) (by omega) (by omega) (ih (k + 1) (by omega) sp lo cl h1 h2 h3 hce hcl)
  have lp132 : ∀ r9 : Nat, ∀ (c : Nat), c + r9 = m → ∀ (sp lo cl : Nat), 500 ≤ sp → sp ≤ 7000 → lo ≤ 100 → kf_cell (nI sp) (nI lo) = nI cl → cl < 24 → kn_Go X ML_areFit 132 [(6, .int (nI c)), (5, .int (nI (kr_sum kn c))), (4, .int 1), (3, .int (nI lo)), (2, .int (nI sp)), (1, .int x), (0, .ref 0)] [] σ τ z (32 * r9 + 662) (192 * r9 + 3972) Q := by
    intro r9
    induction r9 with
    | zero =>
      intro c hc sp lo cl h1 h2 h3 hce hcl 
      obtain rfl : m = c := by omega
      refine k_iload dL_areFit_132 rfl ?_
      refine k_aload_n 0 dL_areFit_134 rfl rfl ?_
      refine k_bipush (8) dL_areFit_135 (by decide) ?_
      refine k_invSH2 (660) (3960) (As := [_, _]) dL_areFit_137 mm_L_value wL_L_101 ⟨by decide, by decide⟩ rfl rfl (Nat.le_of_ble_eq_true rfl) (by omega) (by omega) (cw_value (k := 8) hK h (by omega) ⟨rfl, ?_⟩)
      rw [show kw_val g m 8 = nI m from if_pos rfl]
      refine k_icmpge 358 dL_areFit_140 (by decide) (fun h140 => ?_) (fun h140 => ?_)
      · refine k_iconst (0) dL_areFit_358 (by decide) ?_
        refine k_istore (lv' := [(6, _), (5, _), (4, _), (3, _), (2, _), (1, _), (0, _)]) dL_areFit_359 (by decide) rfl ?_
        refine k_room (c' := 12 * 24 + 372) (n' := 72 * 24 + 2232) (by omega) (by omega) (lp361 24 0 (Nat.zero_add _) sp lo cl h1 h2 h3 hce hcl)
      · exact absurd (nI_le (Nat.le_refl m) (by omega)) h140
    | succ r9 ih =>
      intro c hc sp lo cl h1 h2 h3 hce hcl 
      have hop := kw_op h1 h2 h3
      refine k_iload dL_areFit_132 rfl ?_
      refine k_aload_n 0 dL_areFit_134 rfl rfl ?_
      refine k_bipush (8) dL_areFit_135 (by decide) ?_
      refine k_invSH2 (32 * r9 + 692) (192 * r9 + 4152) (As := [_, _]) dL_areFit_137 mm_L_value wL_L_101 ⟨by decide, by decide⟩ rfl rfl (Nat.le_of_ble_eq_true rfl) (by omega) (by omega) (cw_value (k := 8) hK h (by omega) ⟨rfl, ?_⟩)
      rw [show kw_val g m 8 = nI m from if_pos rfl]
      refine k_icmpge 358 dL_areFit_140 (by decide) (fun h140 => ?_) (fun h140 => ?_)
      · exact absurd h140 (nI_ge (by omega) (by omega))
      · refine k_iload dL_areFit_143 rfl ?_
        refine k_ifeq 358 dL_areFit_145 (by decide) (fun h145 => ?_) (fun h145 => ?_)
        · exact absurd h145 (by decide)
        · refine k_aload_n 0 dL_areFit_148 rfl rfl ?_
          refine k_iload dL_areFit_149 rfl ?_
          refine k_iload_n 2 dL_areFit_151 rfl rfl ?_
          refine k_iload_n 3 dL_areFit_152 rfl rfl ?_
          refine k_iconst (0) dL_areFit_153 (by decide) ?_
          refine k_invSH2 (32 * r9 + 690) (192 * r9 + 4140) (As := [_, _, _, _, _]) dL_areFit_154 mm_L_angle wL_L_134 ⟨by decide, by decide⟩ rfl rfl (Nat.le_of_ble_eq_true rfl) (by omega) (by omega) (cw_angle0 hK h (show c < m by omega) hop hce hcl ⟨rfl, ?_⟩)
          refine k_istore (lv' := [(7, _), (6, _), (5, _), (4, _), (3, _), (2, _), (1, _), (0, _)]) dL_areFit_157 (by decide) rfl ?_
          refine k_iload dL_areFit_159 rfl ?_
          refine k_aload_n 0 dL_areFit_161 rfl rfl ?_
          refine k_iload dL_areFit_162 rfl ?_
          refine k_iconst (4) dL_areFit_164 (by decide) ?_
          refine k_invSH2 (32 * r9 + 688) (192 * r9 + 4128) (As := [_, _, _]) dL_areFit_165 mm_L_cylinder wL_L_108 ⟨by decide, by decide⟩ rfl rfl (Nat.le_of_ble_eq_true rfl) (by omega) (by omega) (cw_cylinder (w := 4) hK h (show c < m by omega) (by decide) ⟨rfl, ?_⟩)
          refine k_iadd dL_areFit_168 ?_
          rw [show nI (kr_sum kn c) + kw_cyl g c 4 = nI (kr_sum kn (c + 1)) from by rw [show kw_cyl g c 4 = nI (kn c) from hkn c (by omega)]; exact nI_add _ _]
          refine k_istore (lv' := [(5, _), (7, _), (6, _), (4, _), (3, _), (2, _), (1, _), (0, _)]) dL_areFit_169 (by decide) rfl ?_
          refine k_aload_n 0 dL_areFit_171 rfl rfl ?_
          refine k_iload dL_areFit_172 rfl ?_
          refine k_iconst (0) dL_areFit_174 (by decide) ?_
          refine k_invSH2 (32 * r9 + 686) (192 * r9 + 4116) (As := [_, _, _]) dL_areFit_175 mm_L_cylinder wL_L_108 ⟨by decide, by decide⟩ rfl rfl (Nat.le_of_ble_eq_true rfl) (by omega) (by omega) (cw_cylinder (w := 0) hK h (show c < m by omega) (by decide) ⟨rfl, ?_⟩)
          refine k_iflt 281 dL_areFit_178 (by decide) (fun h178 => ?_) (fun h178 => ?_)
          · exact absurd h178 (kw_ge0 (hJ.1.2.1 c (by omega)) (by decide))
          · refine k_aload_n 0 dL_areFit_181 rfl rfl ?_
            refine k_iload dL_areFit_182 rfl ?_
            refine k_iconst (0) dL_areFit_184 (by decide) ?_
            refine k_invSH2 (32 * r9 + 684) (192 * r9 + 4104) (As := [_, _, _]) dL_areFit_185 mm_L_cylinder wL_L_108 ⟨by decide, by decide⟩ rfl rfl (Nat.le_of_ble_eq_true rfl) (by omega) (by omega) (cw_cylinder (w := 0) hK h (show c < m by omega) (by decide) ⟨rfl, ?_⟩)
            refine k_sipush (200) dL_areFit_188 (by decide) ?_
            refine k_icmpgt 281 dL_areFit_191 (by decide) (fun h191 => ?_) (fun h191 => ?_)
            · exact absurd h191 (kw_leN (N := 200) (hJ.1.2.1 c (by omega)) (by decide))
            · refine k_aload_n 0 dL_areFit_194 rfl rfl ?_
              refine k_iload dL_areFit_195 rfl ?_
              refine k_iconst (1) dL_areFit_197 (by decide) ?_
              refine k_invSH2 (32 * r9 + 682) (192 * r9 + 4092) (As := [_, _, _]) dL_areFit_198 mm_L_cylinder wL_L_108 ⟨by decide, by decide⟩ rfl rfl (Nat.le_of_ble_eq_true rfl) (by omega) (by omega) (cw_cylinder (w := 1) hK h (show c < m by omega) (by decide) ⟨rfl, ?_⟩)
              refine k_iflt 281 dL_areFit_201 (by decide) (fun h201 => ?_) (fun h201 => ?_)
              · exact absurd h201 (kw_ge0 (h.1.2.2.2.2.2.2.2.1 c (by omega)) (by decide))
              · refine k_aload_n 0 dL_areFit_204 rfl rfl ?_
                refine k_iload dL_areFit_205 rfl ?_
                refine k_iconst (1) dL_areFit_207 (by decide) ?_
                refine k_invSH2 (32 * r9 + 680) (192 * r9 + 4080) (As := [_, _, _]) dL_areFit_208 mm_L_cylinder wL_L_108 ⟨by decide, by decide⟩ rfl rfl (Nat.le_of_ble_eq_true rfl) (by omega) (by omega) (cw_cylinder (w := 1) hK h (show c < m by omega) (by decide) ⟨rfl, ?_⟩)
                refine k_ldc dL_areFit_211 wK_L_156 ?_
                refine k_icmpgt 281 dL_areFit_213 (by decide) (fun h213 => ?_) (fun h213 => ?_)
                · exact absurd h213 (kw_leN (N := 5120000) (h.1.2.2.2.2.2.2.2.1 c (by omega)) (by decide))
                · refine k_aload_n 0 dL_areFit_216 rfl rfl ?_
                  refine k_iload dL_areFit_217 rfl ?_
                  refine k_iconst (2) dL_areFit_219 (by decide) ?_
                  refine k_invSH2 (32 * r9 + 678) (192 * r9 + 4068) (As := [_, _, _]) dL_areFit_220 mm_L_cylinder wL_L_108 ⟨by decide, by decide⟩ rfl rfl (Nat.le_of_ble_eq_true rfl) (by omega) (by omega) (cw_cylinder (w := 2) hK h (show c < m by omega) (by decide) ⟨rfl, ?_⟩)
                  refine k_iflt 281 dL_areFit_223 (by decide) (fun h223 => ?_) (fun h223 => ?_)
                  · exact absurd h223 (kw_ge0 (hJ.1.2.2.1 c (by omega)) (by decide))
                  · refine k_aload_n 0 dL_areFit_226 rfl rfl ?_
                    refine k_iload dL_areFit_227 rfl ?_
                    refine k_iconst (3) dL_areFit_229 (by decide) ?_
                    refine k_invSH2 (32 * r9 + 676) (192 * r9 + 4056) (As := [_, _, _]) dL_areFit_230 mm_L_cylinder wL_L_108 ⟨by decide, by decide⟩ rfl rfl (Nat.le_of_ble_eq_true rfl) (by omega) (by omega) (cw_cylinder (w := 3) hK h (show c < m by omega) (by decide) ⟨rfl, ?_⟩)
                    refine k_bipush (50) dL_areFit_233 (by decide) ?_
                    refine k_icmplt 281 dL_areFit_235 (by decide) (fun h235 => ?_) (fun h235 => ?_)
                    · exact absurd h235 (kw_thr50 h.1.2.2 (by omega))
                    · refine k_iload dL_areFit_238 rfl ?_
                      refine k_iflt 281 dL_areFit_240 (by decide) (fun h240 => ?_) (fun h240 => ?_)
                      · exact absurd h240 ((kw_retI (m := m) h.1.2.2 hJ.1 (by omega) hcl).1)
                      · refine k_iload dL_areFit_243 rfl ?_
                        refine k_aload_n 0 dL_areFit_245 rfl rfl ?_
                        refine k_iconst (3) dL_areFit_246 (by decide) ?_
                        refine k_invSH2 (32 * r9 + 674) (192 * r9 + 4044) (As := [_, _]) dL_areFit_247 mm_L_value wL_L_101 ⟨by decide, by decide⟩ rfl rfl (Nat.le_of_ble_eq_true rfl) (by omega) (by omega) (cw_value (k := 3) hK h (by omega) ⟨rfl, ?_⟩)
                        refine k_icmpgt 281 dL_areFit_250 (by decide) (fun h250 => ?_) (fun h250 => ?_)
                        · exact absurd h250 ((kw_retI h.1.2.2 hJ.1 (by omega) hcl).2)
                        · refine k_aload_n 0 dL_areFit_253 rfl rfl ?_
                          refine k_iload dL_areFit_254 rfl ?_
                          refine k_iload_n 2 dL_areFit_256 rfl rfl ?_
                          refine k_iload_n 3 dL_areFit_257 rfl rfl ?_
                          refine k_iconst (1) dL_areFit_258 (by decide) ?_
                          refine k_invSH2 (32 * r9 + 672) (192 * r9 + 4032) (As := [_, _, _, _, _]) dL_areFit_259 mm_L_angle wL_L_134 ⟨by decide, by decide⟩ rfl rfl (Nat.le_of_ble_eq_true rfl) (by omega) (by omega) (cw_angle1 hK h (show c < m by omega) hop hce hcl ⟨rfl, ?_⟩)
                          refine k_iload dL_areFit_262 rfl ?_
                          refine k_iadd dL_areFit_264 ?_
                          refine k_bipush (100) dL_areFit_265 (by decide) ?_
                          refine k_iload_n 2 dL_areFit_267 rfl rfl ?_
                          refine k_bipush (50) dL_areFit_268 (by decide) ?_
                          refine k_idiv dL_areFit_270 (by decide) ?_
                          refine k_iadd dL_areFit_271 ?_
                          refine k_iload_n 3 dL_areFit_272 rfl rfl ?_
                          refine k_isub dL_areFit_273 ?_
                          refine k_icmpne 281 dL_areFit_274 (by decide) (fun h274 => ?_) (fun h274 => ?_)
                          · exact absurd (show kf_badv (nI sp) (nI lo) - kg_ret (kx g) c cl + kg_ret (kx g) c cl = 100 + nI sp / 50 - nI lo from Int32.sub_add_cancel _ _) h274
                          · refine k_iconst (1) dL_areFit_277 (by decide) ?_
                            refine k_goto 282 dL_areFit_278 (by decide) ?_
                            refine k_istore (lv' := [(4, _), (5, _), (7, _), (6, _), (3, _), (2, _), (1, _), (0, _)]) dL_areFit_282 (by decide) rfl ?_
                            refine k_iload dL_areFit_284 rfl ?_
                            refine k_ifeq 349 dL_areFit_286 (by decide) (fun h286 => ?_) (fun h286 => ?_)
                            · exact absurd h286 (by decide)
                            · refine k_aload_n 0 dL_areFit_289 rfl rfl ?_
                              refine k_iload dL_areFit_290 rfl ?_
                              refine k_iload_n 2 dL_areFit_292 rfl rfl ?_
                              refine k_iload_n 3 dL_areFit_293 rfl rfl ?_
                              refine k_bipush (90) dL_areFit_294 (by decide) ?_
                              refine k_invSH2 (32 * r9 + 670) (192 * r9 + 4020) (As := [_, _, _, _, _]) dL_areFit_296 mm_L_limit wL_L_145 ⟨by decide, by decide⟩ rfl rfl (Nat.le_of_ble_eq_true rfl) (by omega) (by omega) (cw_limit1 hK h (show c < m by omega) (kw_drvOk (oc := 90) hop (by decide) (by decide)) hce hcl ⟨rfl, ?_⟩)
                              refine k_aload_n 0 dL_areFit_299 rfl rfl ?_
                              refine k_iload dL_areFit_300 rfl ?_
                              refine k_iload_n 2 dL_areFit_302 rfl rfl ?_
                              refine k_iload_n 3 dL_areFit_303 rfl rfl ?_
                              refine k_iconst (1) dL_areFit_304 (by decide) ?_
                              refine k_invSH2 (32 * r9 + 668) (192 * r9 + 4008) (As := [_, _, _, _, _]) dL_areFit_305 mm_L_angle wL_L_134 ⟨by decide, by decide⟩ rfl rfl (Nat.le_of_ble_eq_true rfl) (by omega) (by omega) (cw_angle1 hK h (show c < m by omega) hop hce hcl ⟨rfl, ?_⟩)
                              refine k_aload_n 0 dL_areFit_308 rfl rfl ?_
                              refine k_iconst (-1) dL_areFit_309 (by decide) ?_
                              refine k_iload_n 2 dL_areFit_310 rfl rfl ?_
                              refine k_iload_n 3 dL_areFit_311 rfl rfl ?_
                              refine k_bipush (90) dL_areFit_312 (by decide) ?_
                              refine k_invSH2 (32 * r9 + 666) (192 * r9 + 3996) (As := [_, _, _, _, _]) dL_areFit_314 mm_L_limit wL_L_145 ⟨by decide, by decide⟩ rfl rfl (Nat.le_of_ble_eq_true rfl) (by omega) (by omega) (cw_limit0 hK (kw_drvOk (oc := 90) hop (by decide) (by decide)) ⟨rfl, ?_⟩)
                              refine k_isub dL_areFit_317 ?_
                              refine k_icmpne 349 dL_areFit_318 (by decide) (fun h318 => ?_) (fun h318 => ?_)
                              · exact absurd rfl h318
                              · refine k_aload_n 0 dL_areFit_321 rfl rfl ?_
                                refine k_iconst (-1) dL_areFit_322 (by decide) ?_
                                refine k_iload_n 2 dL_areFit_323 rfl rfl ?_
                                refine k_iload_n 3 dL_areFit_324 rfl rfl ?_
                                refine k_bipush (91) dL_areFit_325 (by decide) ?_
                                refine k_invSH2 (32 * r9 + 664) (192 * r9 + 3984) (As := [_, _, _, _, _]) dL_areFit_327 mm_L_limit wL_L_145 ⟨by decide, by decide⟩ rfl rfl (Nat.le_of_ble_eq_true rfl) (by omega) (by omega) (cw_limit0 hK (kw_drvOk (oc := 91) hop (by decide) (by decide)) ⟨rfl, ?_⟩)
                                refine k_aload_n 0 dL_areFit_330 rfl rfl ?_
                                refine k_iconst (-1) dL_areFit_331 (by decide) ?_
                                refine k_iload_n 2 dL_areFit_332 rfl rfl ?_
                                refine k_iload_n 3 dL_areFit_333 rfl rfl ?_
                                refine k_bipush (90) dL_areFit_334 (by decide) ?_
                                refine k_invSH2 (32 * r9 + 662) (192 * r9 + 3972) (As := [_, _, _, _, _]) dL_areFit_336 mm_L_limit wL_L_145 ⟨by decide, by decide⟩ rfl rfl (Nat.le_of_ble_eq_true rfl) (by omega) (by omega) (cw_limit0 hK (kw_drvOk (oc := 90) hop (by decide) (by decide)) ⟨rfl, ?_⟩)
                                refine k_isub dL_areFit_339 ?_
                                refine k_bipush (8) dL_areFit_340 (by decide) ?_
                                refine k_icmpne 349 dL_areFit_342 (by decide) (fun h342 => ?_) (fun h342 => ?_)
                                · exact absurd (kw_klim8 _ _) h342
                                · refine k_iconst (1) dL_areFit_345 (by decide) ?_
                                  refine k_goto 350 dL_areFit_346 (by decide) ?_
                                  refine k_istore (lv' := [(4, _), (5, _), (7, _), (6, _), (3, _), (2, _), (1, _), (0, _)]) dL_areFit_350 (by decide) rfl ?_
                                  refine k_iinc (nI (c + 1)) (lv' := [(6, _), (4, _), (5, _), (7, _), (3, _), (2, _), (1, _), (0, _)]) dL_areFit_352 rfl (kn_inc c) (by decide) rfl ?_
                                  refine k_goto 132 dL_areFit_355 (by decide) ?_
                                  refine k_re [6, 5, 4, 3, 2, 1, 0] (lv' := [(6, _), (5, _), (4, _), (3, _), (2, _), (1, _), (0, _)]) rfl ?_
                                  refine k_room (c' := 32 * r9 + 662) (n' := 192 * r9 + 3972) (by omega) (by omega) (ih (c + 1) (by omega) sp lo cl h1 h2 h3 hce hcl)
  have cut126 : ∀ (sp lo cl : Nat), 500 ≤ sp → sp ≤ 7000 → lo ≤ 100 → kf_cell (nI sp) (nI lo) = nI cl → cl < 24 → kn_Go X ML_areFit 126 [(4, .int 1), (3, .int (nI lo)), (2, .int (nI sp)), (1, .int x), (0, .ref 0)] [] σ τ z (918) (5508) Q := by
    intro sp lo cl h1 h2 h3 hce hcl 
    refine k_iconst (0) dL_areFit_126 (by decide) ?_
    refine k_istore (lv' := [(5, _), (4, _), (3, _), (2, _), (1, _), (0, _)]) dL_areFit_127 (by decide) rfl ?_
    refine k_iconst (0) dL_areFit_129 (by decide) ?_
    refine k_istore (lv' := [(6, _), (5, _), (4, _), (3, _), (2, _), (1, _), (0, _)]) dL_areFit_130 (by decide) rfl ?_
    refine k_room (c' := 32 * m + 662) (n' := 192 * m + 3972) (by omega) (by omega) (lp132 m 0 (Nat.zero_add _) sp lo cl h1 h2 h3 hce hcl)
  have cut81 : ∀ (sp lo cl : Nat), 500 ≤ sp → sp ≤ 7000 → lo ≤ 100 → kf_cell (nI sp) (nI lo) = nI cl → cl < 24 → kn_Go X ML_areFit 81 [(3, .int (nI lo)), (2, .int (nI sp)), (1, .int x), (0, .ref 0)] [] σ τ z (926) (5556) Q := by
    intro sp lo cl h1 h2 h3 hce hcl 
    refine k_aload_n 0 dL_areFit_81 rfl rfl ?_
    refine k_iconst (4) dL_areFit_82 (by decide) ?_
    refine k_invSH2 (924) (5544) (As := [_, _]) dL_areFit_83 mm_L_status wL_L_106 ⟨by decide, by decide⟩ rfl rfl (Nat.le_of_ble_eq_true rfl) (by omega) (by omega) (cw_status (k := 4) hK h (by decide) ⟨rfl, ?_⟩)
    refine k_iconst (-1) dL_areFit_86 (by decide) ?_
    refine k_icmplt 123 dL_areFit_87 (by decide) (fun h87 => ?_) (fun h87 => ?_)
    · exact absurd h87 (kw_m1 hJ.1.2.2.2.1)
    · refine k_aload_n 0 dL_areFit_90 rfl rfl ?_
      refine k_iconst (4) dL_areFit_91 (by decide) ?_
      refine k_invSH2 (922) (5532) (As := [_, _]) dL_areFit_92 mm_L_status wL_L_106 ⟨by decide, by decide⟩ rfl rfl (Nat.le_of_ble_eq_true rfl) (by omega) (by omega) (cw_status (k := 4) hK h (by decide) ⟨rfl, ?_⟩)
      refine k_bipush (24) dL_areFit_95 (by decide) ?_
      refine k_icmpge 123 dL_areFit_97 (by decide) (fun h97 => ?_) (fun h97 => ?_)
      · exact absurd h97 (kw_24 hJ.1.2.2.2.1)
      · refine k_aload_n 0 dL_areFit_100 rfl rfl ?_
        refine k_iconst (0) dL_areFit_101 (by decide) ?_
        refine k_invSH2 (920) (5520) (As := [_, _]) dL_areFit_102 mm_L_status wL_L_106 ⟨by decide, by decide⟩ rfl rfl (Nat.le_of_ble_eq_true rfl) (by omega) (by omega) (cw_status (k := 0) hK h (by decide) ⟨rfl, ?_⟩)
        refine k_iconst (1) dL_areFit_105 (by decide) ?_
        refine k_icmpeq 119 dL_areFit_106 (by decide) (fun h106 => ?_) (fun h106 => ?_)
        · refine k_iconst (1) dL_areFit_119 (by decide) ?_
          refine k_goto 124 dL_areFit_120 (by decide) ?_
          refine k_istore (lv' := [(4, _), (3, _), (2, _), (1, _), (0, _)]) dL_areFit_124 (by decide) rfl ?_
          exact k_room (by omega) (by omega) (cut126 sp lo cl h1 h2 h3 hce hcl)
        · refine k_aload_n 0 dL_areFit_109 rfl rfl ?_
          refine k_iconst (1) dL_areFit_110 (by decide) ?_
          refine k_invSH2 (918) (5508) (As := [_, _]) dL_areFit_111 mm_L_status wL_L_106 ⟨by decide, by decide⟩ rfl rfl (Nat.le_of_ble_eq_true rfl) (by omega) (by omega) (cw_status (k := 1) hK h (by decide) ⟨rfl, ?_⟩)
          refine k_bipush (20) dL_areFit_114 (by decide) ?_
          refine k_icmpge 123 dL_areFit_116 (by decide) (fun h116 => ?_) (fun h116 => ?_)
          · exact absurd h116 (show ¬ (20 : Int32) ≤ g 13 by rw [hs1]; exact nI_ge (a := lo9) (b := 20) (hs6.resolve_left (fun w => h106 (show g 12 = 1 from w))) (by decide))
          · refine k_iconst (1) dL_areFit_119 (by decide) ?_
            refine k_goto 124 dL_areFit_120 (by decide) ?_
            refine k_istore (lv' := [(4, _), (3, _), (2, _), (1, _), (0, _)]) dL_areFit_124 (by decide) rfl ?_
            exact k_room (by omega) (by omega) (cut126 sp lo cl h1 h2 h3 hce hcl)
  refine k_sipush (500) dL_areFit_0 (by decide) ?_
  refine k_iload_n 1 dL_areFit_3 rfl rfl ?_
  refine k_sipush (6501) dL_areFit_4 (by decide) ?_
  refine k_invS (As := [_, _]) dL_areFit_7 mm_L_low wL_L_153 ⟨by decide, by decide⟩ rfl rfl (Nat.le_of_ble_eq_true rfl) (Nat.zero_le _) (Nat.zero_le _) (m_L_low (k := 6501) (by decide) (by decide) (fun sj hsj => ⟨rfl, ?_⟩))
  refine k_iadd dL_areFit_10 ?_
  rw [show (500 : Int32) + nI sj = nI (500 + sj) from nI_add 500 sj]
  refine k_istore_n 2 (lv' := [(2, _), (0, _), (1, _)]) dL_areFit_11 rfl (by decide) rfl ?_
  refine k_iload_n 1 dL_areFit_12 rfl rfl ?_
  refine k_bipush (6) dL_areFit_13 (by decide) ?_
  refine k_ishr dL_areFit_15 ?_
  refine k_bipush (101) dL_areFit_16 (by decide) ?_
  refine k_invS (As := [_, _]) dL_areFit_18 mm_L_low wL_L_153 ⟨by decide, by decide⟩ rfl rfl (Nat.le_of_ble_eq_true rfl) (Nat.zero_le _) (Nat.zero_le _) (m_L_low (k := 101) (by decide) (by decide) (fun lo hlo => ⟨rfl, ?_⟩))
  refine k_istore_n 3 (lv' := [(3, _), (2, _), (0, _), (1, _)]) dL_areFit_21 rfl (by decide) rfl ?_
  obtain ⟨sp, hsp⟩ : ∃ sp, sp = 500 + sj := ⟨_, rfl⟩
  rw [← hsp]
  have h1 : 500 ≤ sp := by omega
  have h2 : sp ≤ 7000 := by omega
  have h3 : lo ≤ 100 := by omega
  obtain ⟨cl, hce, hcl⟩ := kr_cell (kw_op h1 h2 h3)
  refine k_aload_n 0 dL_areFit_22 rfl rfl ?_
  refine k_invV (As := []) dL_areFit_23 mm_X6_events wL_L_95 ⟨by decide, by decide⟩ hK.1.1 hK.1.2 rfl rfl (Nat.le_of_ble_eq_true rfl) (Nat.zero_le _) (Nat.zero_le _) (cw_events hK h ⟨rfl, ?_⟩)
  refine k_bipush (60) dL_areFit_26 (by decide) ?_
  rw [hl]
  refine k_icmpgt 123 dL_areFit_28 (by decide) (fun h28 => ?_) (fun h28 => ?_)
  · exact absurd h28 (show ¬ (60 : Int32) < nI lc from nI_nlt (a := 60) hlc (by decide))
  · refine k_aload_n 0 dL_areFit_31 rfl rfl ?_
    refine k_invV (As := []) dL_areFit_32 mm_X6_next wL_L_98 ⟨by decide, by decide⟩ hK.1.1 hK.1.2 rfl rfl (Nat.le_of_ble_eq_true rfl) (Nat.zero_le _) (Nat.zero_le _) (cw_next hK h ⟨rfl, ?_⟩)
    refine k_aload_n 0 dL_areFit_35 rfl rfl ?_
    refine k_invV (As := []) dL_areFit_36 mm_X6_firings wL_L_92 ⟨by decide, by decide⟩ hK.1.1 hK.1.2 rfl rfl (Nat.le_of_ble_eq_true rfl) (Nat.zero_le _) (Nat.zero_le _) (cw_firings hK h ⟨rfl, ?_⟩)
    refine k_aload_n 0 dL_areFit_39 rfl rfl ?_
    refine k_bipush (8) dL_areFit_40 (by decide) ?_
    refine k_invSH2 (1398) (8388) (As := [_, _]) dL_areFit_42 mm_L_value wL_L_101 ⟨by decide, by decide⟩ rfl rfl (Nat.le_of_ble_eq_true rfl) (by omega) (by omega) (cw_value (k := 8) hK h (by omega) ⟨rfl, ?_⟩)
    refine k_irem dL_areFit_45 (show ¬ kw_val g m 8 = 0 from nI_ne0 (n := m) (by omega) (by omega)) ?_
    rw [show kw_val g m 8 = nI m from if_pos rfl, show nI fi - nI fi / nI m * nI m = nI (fi % m) from kn_rem rfl (by omega) (by omega) (by omega) rfl]
    refine k_icmpne 123 dL_areFit_46 (by decide) (fun h46 => ?_) (fun h46 => ?_)
    · exact absurd rfl h46
    · refine k_aload_n 0 dL_areFit_49 rfl rfl ?_
      refine k_iconst (1) dL_areFit_50 (by decide) ?_
      refine k_invSH2 (1396) (8376) (As := [_, _]) dL_areFit_51 mm_L_status wL_L_106 ⟨by decide, by decide⟩ rfl rfl (Nat.le_of_ble_eq_true rfl) (by omega) (by omega) (cw_status (k := 1) hK h (by decide) ⟨rfl, ?_⟩)
      refine k_iflt 123 dL_areFit_54 (by decide) (fun h54 => ?_) (fun h54 => ?_)
      · exact absurd h54 (show ¬ g 13 < 0 by rw [hs1]; exact nI_pos (by omega))
      · refine k_aload_n 0 dL_areFit_57 rfl rfl ?_
        refine k_iconst (2) dL_areFit_58 (by decide) ?_
        refine k_invSH2 (1394) (8364) (As := [_, _]) dL_areFit_59 mm_L_status wL_L_106 ⟨by decide, by decide⟩ rfl rfl (Nat.le_of_ble_eq_true rfl) (by omega) (by omega) (cw_status (k := 2) hK h (by decide) ⟨rfl, ?_⟩)
        refine k_iflt 123 dL_areFit_62 (by decide) (fun h62 => ?_) (fun h62 => ?_)
        · exact absurd h62 (show ¬ g 14 < 0 by rw [hs2]; exact nI_pos (by omega))
        · refine k_aload_n 0 dL_areFit_65 rfl rfl ?_
          refine k_iconst (1) dL_areFit_66 (by decide) ?_
          refine k_invSH2 (1392) (8352) (As := [_, _]) dL_areFit_67 mm_L_status wL_L_106 ⟨by decide, by decide⟩ rfl rfl (Nat.le_of_ble_eq_true rfl) (by omega) (by omega) (cw_status (k := 1) hK h (by decide) ⟨rfl, ?_⟩)
          refine k_ifeq 81 dL_areFit_70 (by decide) (fun h70 => ?_) (fun h70 => ?_)
          · refine k_re [3, 2, 1, 0] (lv' := [(3, _), (2, _), (1, _), (0, _)]) rfl ?_
            exact k_room (by omega) (by omega) (cut81 sp lo cl h1 h2 h3 hce hcl)
          · refine k_aload_n 0 dL_areFit_73 rfl rfl ?_
            refine k_iconst (2) dL_areFit_74 (by decide) ?_
            refine k_invSH2 (1390) (8340) (As := [_, _]) dL_areFit_75 mm_L_status wL_L_106 ⟨by decide, by decide⟩ rfl rfl (Nat.le_of_ble_eq_true rfl) (by omega) (by omega) (cw_status (k := 2) hK h (by decide) ⟨rfl, ?_⟩)
            refine k_ifne 123 dL_areFit_78 (by decide) (fun h78 => ?_) (fun h78 => ?_)
            · exact absurd (show g 14 = 0 from by rw [hs2, hs5.resolve_left (fun w => h70 (show g 13 = 0 from by rw [hs1, w]; rfl))]; rfl) h78
            · refine k_re [3, 2, 1, 0] (lv' := [(3, _), (2, _), (1, _), (0, _)]) rfl ?_
              exact k_room (by omega) (by omega) (cut81 sp lo cl h1 h2 h3 hce hcl)

