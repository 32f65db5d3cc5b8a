-- what is held behind each way
set_option maxRecDepth 100000 in
set_option maxHeartbeats 4000000 in
theorem m_law_behind {X : kn_X} {σ : kn_S} {τ : kn_T} {z : kn_Z} {B m fi t y sp lo c n lc : Nat} {g : Nat → Int32} {l : List kw_G} {x : Int32} {Q : kn_Q} (hK : kn_isK z) (W : kw_W σ B g m fi l) (hl : g 73 = nI lc) (hlc : lc ≤ 60) (hB : B + 20000 < 1000000000) (hy : y < 100000) (h1 : 500 ≤ sp) (h2 : sp ≤ 7000) (h3 : lo ≤ 100) (hk : ∀ (σ8 : kn_S) (g8 : Nat → Int32) (m8 f8 : Nat) (l8 : List kw_G), kw_W σ8 (B + 10000) g8 m8 f8 l8 → kn_Go X ML_lawK 549 [(3, .int (nI t)), (2, .int 1), (1, .ref 0), (0, .retAddr 0)] [] σ8 τ z c n Q) (sw : Nat) (hsw : sw < 12) : kn_Go X ML_lawK 112 [(10, .int 0), (8, .long (kw_pr g m fi lc)), (7, .int (nI lo)), (6, .int (nI sp)), (5, .int (nI y)), (4, .int x), (3, .int (nI t)), (2, .int 1), (1, .ref 0), (0, .retAddr 0)] [.int (nI sw)] σ τ z (c + 10004) (n + 60024) Q := by
  have cut543 : ∀ (v : Int32) (σ8 : kn_S) (g8 : Nat → Int32) (m8 f8 : Nat) (l8 : List kw_G), kw_W σ8 (B + 8000) g8 m8 f8 l8 → kn_Go X ML_lawK 543 [(10, .int v), (8, .long (kw_pr g m fi lc)), (7, .int (nI lo)), (6, .int (nI sp)), (5, .int (nI y)), (4, .int x), (3, .int (nI t)), (2, .int 1), (1, .ref 0), (0, .retAddr 0)] [] σ8 τ z (c + 0) (n + 0) Q := by
    intro v σ8 g8 m8 f8 l8 W8
    refine k_iconst (1) dL_law_543 (by decide) ?_
    refine k_goto 548 dL_law_544 (by decide) ?_
    refine k_istore_n 2 (lv' := [(2, _), (10, _), (8, _), (7, _), (6, _), (5, _), (4, _), (3, _), (1, _), (0, _)]) dL_law_548 rfl (by decide) rfl ?_
    refine k_re [3, 2, 1, 0] (lv' := [(3, _), (2, _), (1, _), (0, _)]) rfl ?_
    exact k_room (by omega) (by omega) (hk _ _ _ _ _ (W8.to (by omega) (fun _ _ _ _ => rfl)))
  have cut528 : ∀ (v : Int32) (σ8 : kn_S) (g8 : Nat → Int32) (m8 f8 : Nat) (l8 : List kw_G), kw_W σ8 (B + 8000) g8 m8 f8 l8 → kn_Go X ML_lawK 528 [(10, .int v), (8, .long (kw_pr g m fi lc)), (7, .int (nI lo)), (6, .int (nI sp)), (5, .int (nI y)), (4, .int x), (3, .int (nI t)), (2, .int 1), (1, .ref 0), (0, .retAddr 0)] [] σ8 τ z (c + 1300) (n + 7800) Q := by
    intro v σ8 g8 m8 f8 l8 W8
    refine k_iload_n 3 dL_law_528 rfl rfl ?_
    refine k_bipush (8) dL_law_529 (by decide) ?_
    refine k_irem dL_law_531 (by decide) ?_
    refine k_iconst (4) dL_law_532 (by decide) ?_
    refine k_icmpne 543 dL_law_533 (by decide) (fun h533 => ?_) (fun h533 => ?_)
    · exact k_room (by omega) (by omega) (cut543 _ _ _ _ _ _ (by first | exact W9.to (by omega) (fun _ _ _ _ => rfl) | exact W8.to (by omega) (fun _ _ _ _ => rfl)))
    · refine k_aload_n 1 dL_law_536 rfl rfl ?_
      refine k_invS2 (c) (n) (As := [_]) dL_law_537 mm_L_refused wL_L_170 ⟨by decide, by decide⟩ rfl rfl (Nat.le_of_ble_eq_true rfl) (by omega) (by omega) (m_L_refused hK W8 ⟨rfl, ?_⟩)
      refine k_ifeq 547 dL_law_540 (by decide) (fun h540 => ?_) (fun h540 => ?_)
      · exact absurd h540 (by decide)
      · exact k_room (by omega) (by omega) (cut543 _ _ _ _ _ _ (by first | exact W9.to (by omega) (fun _ _ _ _ => rfl) | exact W8.to (by omega) (fun _ _ _ _ => rfl)))
  have cut489 : ∀ (v : Int32) (σ8 : kn_S) (g8 : Nat → Int32) (m8 f8 : Nat) (l8 : List kw_G), kw_W σ8 (B + 4000) g8 m8 f8 l8 → kn_Go X ML_lawK 489 [(10, .int v), (8, .long (kw_pr g m fi lc)), (7, .int (nI lo)), (6, .int (nI sp)), (5, .int (nI y)), (4, .int x), (3, .int (nI t)), (2, .int 1), (1, .ref 0), (0, .retAddr 0)] [] σ8 τ z (c + 4500) (n + 27000) Q := by
    intro v σ8 g8 m8 f8 l8 W8
    refine k_iload_n 3 dL_law_489 rfl rfl ?_
    refine k_iconst (5) dL_law_490 (by decide) ?_
    refine k_irem dL_law_491 (by decide) ?_
    refine k_iconst (3) dL_law_492 (by decide) ?_
    refine k_icmpne 528 dL_law_493 (by decide) (fun h493 => ?_) (fun h493 => ?_)
    · exact k_room (by omega) (by omega) (cut528 _ _ _ _ _ _ (by first | exact W9.to (by omega) (fun _ _ _ _ => rfl) | exact W8.to (by omega) (fun _ _ _ _ => rfl)))
    · refine k_aload_n 1 dL_law_496 rfl rfl ?_
      refine k_iload dL_law_497 rfl ?_
      refine k_iload dL_law_499 rfl ?_
      refine k_bipush (80) dL_law_501 (by decide) ?_
      refine k_iload dL_law_503 rfl ?_
      refine k_bipush (31) dL_law_505 (by decide) ?_
      refine k_irem dL_law_507 (by decide) ?_
      rw [show nI y - nI y / 31 * 31 = nI (y % 31) from kw_mod_ (d := 31) (by omega) (by decide) (by decide)]
      refine k_iadd dL_law_508 ?_
      rw [show (80 : Int32) + nI (y % 31) = nI (80 + y % 31) from nI_add 80 _]
      refine k_iload dL_law_509 rfl ?_
      refine k_bipush (40) dL_law_511 (by decide) ?_
      refine k_irem dL_law_513 (by decide) ?_
      rw [show nI y - nI y / 40 * 40 = nI (y % 40) from kw_mod_ (d := 40) (by omega) (by decide) (by decide)]
      refine k_iload dL_law_514 rfl ?_
      refine k_bipush (40) dL_law_516 (by decide) ?_
      refine k_idiv dL_law_518 (by decide) ?_
      rw [show nI y / 40 = nI (y / 40) from kw_div (d := 40) (by omega) (by decide) (by decide)]
      refine k_bipush (40) dL_law_519 (by decide) ?_
      refine k_irem dL_law_521 (by decide) ?_
      rw [show nI (y / 40) - nI (y / 40) / 40 * 40 = nI ((y / 40) % 40) from kw_mod_ (d := 40) (by omega) (by decide) (by decide)]
      refine k_invS2 (c + 1300) (n + 7800) (As := [_, _, _, _, _, _]) dL_law_522 mm_L_isSplit wL_L_194 ⟨by decide, by decide⟩ rfl rfl (Nat.le_of_ble_eq_true rfl) (by omega) (by omega) (m_L_isSplit hK W8 (by omega) h1 h2 h3 (show 80 ≤ 80 + y % 31 ∧ 80 + y % 31 ≤ 110 by omega) (show y % 40 ≤ 99 by omega) (show y / 40 % 40 ≤ 99 by omega) (fun σ9 l9 W9 => ⟨rfl, ?_⟩))
      refine k_ifeq 547 dL_law_525 (by decide) (fun h525 => ?_) (fun h525 => ?_)
      · exact absurd h525 (by decide)
      · exact k_room (by omega) (by omega) (cut528 _ _ _ _ _ _ (by first | exact W9.to (by omega) (fun _ _ _ _ => rfl) | exact W8.to (by omega) (fun _ _ _ _ => rfl)))
  have cut467 : ∀ (v : Int32) (σ8 : kn_S) (g8 : Nat → Int32) (m8 f8 : Nat) (l8 : List kw_G), kw_W σ8 (B + 3000) g8 m8 f8 l8 → kn_Go X ML_lawK 467 [(10, .int v), (8, .long (kw_pr g m fi lc)), (7, .int (nI lo)), (6, .int (nI sp)), (5, .int (nI y)), (4, .int x), (3, .int (nI t)), (2, .int 1), (1, .ref 0), (0, .retAddr 0)] [] σ8 τ z (c + 6000) (n + 36000) Q := by
    intro v σ8 g8 m8 f8 l8 W8
    refine k_iload_n 3 dL_law_467 rfl rfl ?_
    refine k_bipush (7) dL_law_468 (by decide) ?_
    refine k_irem dL_law_470 (by decide) ?_
    refine k_iconst (2) dL_law_471 (by decide) ?_
    refine k_icmpne 489 dL_law_472 (by decide) (fun h472 => ?_) (fun h472 => ?_)
    · exact k_room (by omega) (by omega) (cut489 _ _ _ _ _ _ (by first | exact W9.to (by omega) (fun _ _ _ _ => rfl) | exact W8.to (by omega) (fun _ _ _ _ => rfl)))
    · refine k_aload_n 1 dL_law_475 rfl rfl ?_
      refine k_iconst (2) dL_law_476 (by decide) ?_
      refine k_iload dL_law_477 rfl ?_
      refine k_bipush (7) dL_law_479 (by decide) ?_
      refine k_irem dL_law_481 (by decide) ?_
      rw [show nI y - nI y / 7 * 7 = nI (y % 7) from kw_mod_ (d := 7) (by omega) (by decide) (by decide)]
      refine k_iadd dL_law_482 ?_
      rw [show (2 : Int32) + nI (y % 7) = nI (2 + y % 7) from nI_add 2 _]
      refine k_invS2 (c + 4500) (n + 27000) (As := [_, _]) dL_law_483 mm_L_isAnew wL_L_191 ⟨by decide, by decide⟩ rfl rfl (Nat.le_of_ble_eq_true rfl) (by omega) (by omega) (m_L_isAnew (N := 2 + y % 7) hK W8 (by omega) (by omega) (fun σ9 l9 W9 => ⟨rfl, ?_⟩))
      refine k_ifeq 547 dL_law_486 (by decide) (fun h486 => ?_) (fun h486 => ?_)
      · exact absurd h486 (by decide)
      · exact k_room (by omega) (by omega) (cut489 _ _ _ _ _ _ (by first | exact W9.to (by omega) (fun _ _ _ _ => rfl) | exact W8.to (by omega) (fun _ _ _ _ => rfl)))
  have cut421 : ∀ (v : Int32) (σ8 : kn_S) (g8 : Nat → Int32) (m8 f8 : Nat) (l8 : List kw_G), kw_W σ8 (B + 1000) g8 m8 f8 l8 → kn_Go X ML_lawK 421 [(10, .int v), (8, .long (kw_pr g m fi lc)), (7, .int (nI lo)), (6, .int (nI sp)), (5, .int (nI y)), (4, .int x), (3, .int (nI t)), (2, .int 1), (1, .ref 0), (0, .retAddr 0)] [] σ8 τ z (c + 9400) (n + 56400) Q := by
    intro v σ8 g8 m8 f8 l8 W8
    refine k_iload_n 2 dL_law_421 rfl rfl ?_
    refine k_ifeq 547 dL_law_422 (by decide) (fun h422 => ?_) (fun h422 => ?_)
    · exact absurd h422 (by decide)
    · refine k_aload_n 1 dL_law_425 rfl rfl ?_
      refine k_iload dL_law_426 rfl ?_
      refine k_invS2 (c + 8000) (n + 48000) (As := [_, _]) dL_law_428 mm_L_areFit wL_L_174 ⟨by decide, by decide⟩ rfl rfl (Nat.le_of_ble_eq_true rfl) (by omega) (by omega) (m_L_areFit hK W8 (by omega) ⟨rfl, ?_⟩)
      refine k_ifeq 547 dL_law_431 (by decide) (fun h431 => ?_) (fun h431 => ?_)
      · exact absurd h431 (by decide)
      · refine k_iload_n 3 dL_law_434 rfl rfl ?_
        refine k_iconst (3) dL_law_435 (by decide) ?_
        refine k_irem dL_law_436 (by decide) ?_
        refine k_iconst (1) dL_law_437 (by decide) ?_
        refine k_icmpne 467 dL_law_438 (by decide) (fun h438 => ?_) (fun h438 => ?_)
        · exact k_room (by omega) (by omega) (cut467 _ _ _ _ _ _ (by first | exact W9.to (by omega) (fun _ _ _ _ => rfl) | exact W8.to (by omega) (fun _ _ _ _ => rfl)))
        · refine k_aload_n 1 dL_law_441 rfl rfl ?_
          refine k_iload dL_law_442 rfl ?_
          refine k_iload dL_law_444 rfl ?_
          refine k_iload dL_law_446 rfl ?_
          refine k_sipush (3000) dL_law_448 (by decide) ?_
          refine k_irem dL_law_451 (by decide) ?_
          rw [show nI y - nI y / 3000 * 3000 = nI (y % 3000) from kw_mod_ (d := 3000) (by omega) (by decide) (by decide)]
          refine k_iload dL_law_452 rfl ?_
          refine k_bipush (7) dL_law_454 (by decide) ?_
          refine k_idiv dL_law_456 (by decide) ?_
          rw [show nI y / 7 = nI (y / 7) from kw_div (d := 7) (by omega) (by decide) (by decide)]
          refine k_sipush (3000) dL_law_457 (by decide) ?_
          refine k_irem dL_law_460 (by decide) ?_
          rw [show nI (y / 7) - nI (y / 7) / 3000 * 3000 = nI ((y / 7) % 3000) from kw_mod_ (d := 3000) (by omega) (by decide) (by decide)]
          refine k_invS2 (c + 6000) (n + 36000) (As := [_, _, _, _, _]) dL_law_461 mm_L_isLoud wL_L_187 ⟨by decide, by decide⟩ rfl rfl (Nat.le_of_ble_eq_true rfl) (by omega) (by omega) (m_L_isLoud hK W8 (by omega) h1 h2 h3 (show y % 3000 ≤ 20000 by omega) (show y / 7 % 3000 ≤ 20000 by omega) (fun σ9 l9 W9 => ⟨rfl, ?_⟩))
          refine k_ifeq 547 dL_law_464 (by decide) (fun h464 => ?_) (fun h464 => ?_)
          · exact absurd h464 (by decide)
          · exact k_room (by omega) (by omega) (cut467 _ _ _ _ _ _ (by first | exact W9.to (by omega) (fun _ _ _ _ => rfl) | exact W8.to (by omega) (fun _ _ _ _ => rfl)))
  have cut372 : ∀ (v : Int32) (σ8 : kn_S) (g8 : Nat → Int32) (m8 f8 : Nat) (l8 : List kw_G), ¬ v < 0 → kw_W σ8 (B + 1000) g8 m8 f8 ((g, m, fi) :: l8) → kn_Go X ML_lawK 372 [(10, .int v), (8, .long (kw_pr g m fi lc)), (7, .int (nI lo)), (6, .int (nI sp)), (5, .int (nI y)), (4, .int x), (3, .int (nI t)), (2, .int 1), (1, .ref 0), (0, .retAddr 0)] [] σ8 τ z (c + 10002) (n + 60012) Q := by
    intro v σ8 g8 m8 f8 l8 hv W8
    refine k_iload dL_law_372 rfl ?_
    refine k_iflt 381 dL_law_374 (by decide) (fun h374 => ?_) (fun h374 => ?_)
    · exact absurd h374 hv
    · refine k_iconst (1) dL_law_377 (by decide) ?_
      refine k_goto 382 dL_law_378 (by decide) ?_
      refine k_istore_n 2 (lv' := [(2, _), (10, _), (8, _), (7, _), (6, _), (5, _), (4, _), (3, _), (1, _), (0, _)]) dL_law_382 rfl (by decide) rfl ?_
      refine k_iload_n 2 dL_law_383 rfl rfl ?_
      refine k_ifeq 421 dL_law_384 (by decide) (fun h384 => ?_) (fun h384 => ?_)
      · exact absurd h384 (by decide)
      · refine k_iload dL_law_387 rfl ?_
        refine k_bipush (24) dL_law_389 (by decide) ?_
        refine k_ishr dL_law_391 ?_
        refine k_bipush (7) dL_law_392 (by decide) ?_
        refine k_iand dL_law_394 ?_
        refine k_ifne 421 dL_law_395 (by decide) (fun h395 => ?_) (fun h395 => ?_)
        · refine k_re [10, 8, 7, 6, 5, 4, 3, 2, 1, 0] (lv' := [(10, _), (8, _), (7, _), (6, _), (5, _), (4, _), (3, _), (2, _), (1, _), (0, _)]) rfl ?_
          exact k_room (by omega) (by omega) (cut421 _ _ _ _ _ _ (by first | exact W9.to (by omega) (fun _ _ _ _ => rfl) | exact W8.to (by omega) (fun _ _ _ _ => rfl)))
        · refine k_aload_n 1 dL_law_398 rfl rfl ?_
          refine k_invSH2 (c + 10000) (n + 60000) (As := [_]) dL_law_399 mm_L_undo wL_L_160 ⟨by decide, by decide⟩ rfl rfl (Nat.le_of_ble_eq_true rfl) (by omega) (by omega) (cw_undo (q := (g, m, fi)) hK W8 (fun σ9 k9 hk9 W9 => ⟨rfl, ?_⟩))
          refine k_iflt 419 dL_law_402 (by decide) (fun h402 => ?_) (fun h402 => ?_)
          · exact absurd h402 (nI_pos (by omega))
          · refine k_aload_n 1 dL_law_405 rfl rfl ?_
            refine k_invS2 (c + 9400) (n + 56400) (As := [_]) dL_law_406 mm_L_print wL_L_115 ⟨by decide, by decide⟩ rfl rfl (Nat.le_of_ble_eq_true rfl) (by omega) (by omega) (m_L_print (m := m) (fi := fi) (g := g) hK W9.1.1 hl hlc ⟨rfl, ?_⟩)
            refine k_lload dL_law_409 rfl ?_
            refine k_lcmp dL_law_411 ?_
            rw [kr_lcmp]
            refine k_ifne 419 dL_law_412 (by decide) (fun h412 => ?_) (fun h412 => ?_)
            · exact absurd rfl h412
            · refine k_iconst (1) dL_law_415 (by decide) ?_
              refine k_goto 420 dL_law_416 (by decide) ?_
              refine k_istore_n 2 (lv' := [(2, _), (10, _), (8, _), (7, _), (6, _), (5, _), (4, _), (3, _), (1, _), (0, _)]) dL_law_420 rfl (by decide) rfl ?_
              refine k_re [10, 8, 7, 6, 5, 4, 3, 2, 1, 0] (lv' := [(10, _), (8, _), (7, _), (6, _), (5, _), (4, _), (3, _), (2, _), (1, _), (0, _)]) rfl ?_
              exact k_room (by omega) (by omega) (cut421 _ _ _ _ _ _ (by first | exact W9.to (by omega) (fun _ _ _ _ => rfl) | exact W8.to (by omega) (fun _ _ _ _ => rfl)))
  have hB1 : B + 10000 < 1000000000 := by omega
  have : sw = 0 ∨ sw = 1 ∨ sw = 2 ∨ sw = 3 ∨ sw = 4 ∨ sw = 5 ∨ sw = 6 ∨ 6 < sw := by omega
  rcases this with rfl | rfl | rfl | rfl | rfl | rfl | rfl | hs
  · exact k_tsIn 156 dL_law_112 (by decide) (by decide) rfl (by decide) (c_set (c := c + 10002) (n := n + 60012) hK W hB1 hy h1 h2 h3 cut372)
  · exact k_tsIn 217 dL_law_112 (by decide) (by decide) rfl (by decide) (c_teach (c := c + 10002) (n := n + 60012) hK W hB1 hy h1 h2 h3 cut372)
  · exact k_tsIn 246 dL_law_112 (by decide) (by decide) rfl (by decide) (c_break (c := c + 10002) (n := n + 60012) hK W hB1 hy h1 h2 h3 cut372)
  · exact k_tsIn 275 dL_law_112 (by decide) (by decide) rfl (by decide) (c_seed (c := c + 10002) (n := n + 60012) hK W hB1 hy h1 h2 h3 cut372)
  · exact k_tsIn 286 dL_law_112 (by decide) (by decide) rfl (by decide) (c_begin (c := c + 10002) (n := n + 60012) hK W hB1 hy h1 h2 h3 cut372)
  · exact k_tsIn 330 dL_law_112 (by decide) (by decide) rfl (by decide) (c_fire (c := c + 10002) (n := n + 60012) hK W hB1 hy h1 h2 h3 cut372)
  · exact k_tsIn 330 dL_law_112 (by decide) (by decide) rfl (by decide) (c_fire (c := c + 10002) (n := n + 60012) hK W hB1 hy h1 h2 h3 cut372)
  · exact k_tsOut 349 dL_law_112 (Or.inr (by rw [nI_toInt (by omega)]; omega)) (by decide) (c_drive (c := c + 10002) (n := n + 60012) hK W hB1 hy h1 h2 h3 cut372)

