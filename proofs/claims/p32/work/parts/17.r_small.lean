theorem kn_entryJ {X : kn_X} {M : kn_M} {args : List Value} {σ : kn_S} {τ : kn_T} {z : kn_Z} {c n : Nat} {Q : kn_Q} (hp : plainFor M.1 = true) (hM : M.2.2.2.2.1 = []) (hlen : (lg_sl args).length ≤ M.2.2.1)
    (k : kn_Go X M 0 (lv_args 0 args) [] σ τ z c n Q) : kn_Ev X M args σ τ z c n Q := by
  intro l D cs z0 ar ad htr
  have hw : kn_w M :: kn_ws = Cond.code M.1 M.2.1 M.2.2.1 M.2.2.2.1 :: kn_ws := by rw [kn_w, hM]
  refine MetFree.of_bodySF (code := M.2.1) (maxLocals := M.2.2.1) (ret := M.2.2.2.1) hp ?_ ?_
  · intro args s m h hn
    obtain ⟨meth, c, h1, h2, h3, h4, h5, h6, -, -⟩ := Cond.code_spec hn (atoms_spec (ws := kn_w M :: kn_ws) h _ (by rw [hw]; exact List.mem_cons_self))
    exact ⟨meth, c, h1, h2, h3, h4, h5, h6⟩
  intro p e s m args' below meth cd s₁ B hml hv _
  have ht : ∀ x ∈ cd.exceptionTable.toList, False := by
    obtain ⟨meth9, c9, h1, h2, -, -, -, -, h7, -⟩ := Cond.code_spec B.named (atoms_spec (ws := kn_w M :: kn_ws) B.pre _ (by rw [hw]; exact List.mem_cons_self))
    cases Option.some.inj (h1.symm.trans B.method)
    cases Option.some.inj (h2.symm.trans (Stand.of_body B).code)
    intro x hx
    rw [Array.isEmpty_iff.mp h7] at hx
    cases hx
  obtain ⟨rfl, hW, hK, hF⟩ := hv
  have hts := atoms_spec (ws := kn_w M :: kn_ws) B.pre
  have htab : cd.exceptionTable.toList = tableOf M.2.2.2.2.1 := by
    rw [hM]
    exact List.eq_nil_iff_forall_not_mem.mpr fun x hx => ht x hx
  have C : kn_C X M D cs z0 ar p l (headSpec (kn_w M :: kn_ws) (kn_rm M c n)).room s m (args.map (kn_cv ad ar)).toArray meth cd :=
    ⟨⟨B.exec, B.bytes, hml, findClass_of_methodNamed B.named, fun w hw => hts w (List.mem_cons_of_mem _ hw)⟩, ⟨htr, B.returns, B.notSynchronized, htab, fun h => (name_of_methodNamed B.named B.method).1.trans h⟩, ⟨Nat.le_refl _, Nat.le_refl _⟩, hK, hF⟩
  have hh0 : s₁.heap = s.heap := by rw [B.state]; rfl
  have hl := lv_entry (args.map (kn_cv ad ar)) (n := M.2.2.1) (by rw [kn_sl_len]; exact hlen)
  rw [kn_args_lc] at hl
  have K := k D cs z0 ar p l e _ s m _ below meth cd z.1 ad c n _ ⟨C, kn_endMQ C, Nat.le_refl _, Nat.le_refl _⟩ ad s.heap [] _ 0 0 ⟨kn_Ad.rf, ⟨by omega, by omega⟩, hW, va_S.rf, hl⟩
  obtain ⟨t, a1, o, b1, b2, b3⟩ := K s₁ hh0 (Stand.of_body B)
  rw [lg_entry_eq]
  exact ⟨t, o, a1, b1, b2, b3⟩
-- the statics, the engine, the log, the small methods of a state
theorem kn_sw3 (x : Int32) : x = 0 ∨ x = 1 ∨ x = 2 ∨ x = 3 ∨ ((¬ x = 0 ∧ ¬ x = 1 ∧ ¬ x = 2 ∧ ¬ x = 3) ∧ (x.toInt < 0 ∨ 3 < x.toInt)) := by
  by_cases h0 : x = 0; · exact Or.inl h0
  by_cases h1 : x = 1; · exact Or.inr (Or.inl h1)
  by_cases h2 : x = 2; · exact Or.inr (Or.inr (Or.inl h2))
  by_cases h3 : x = 3; · exact Or.inr (Or.inr (Or.inr (Or.inl h3)))
  refine Or.inr (Or.inr (Or.inr (Or.inr ⟨⟨h0, h1, h2, h3⟩, ?_⟩)))
  have e0 : ¬ x.toInt = 0 := fun h => h0 (Int32.toInt_inj.mp h)
  have e1 : ¬ x.toInt = 1 := fun h => h1 (Int32.toInt_inj.mp h)
  have e2 : ¬ x.toInt = 2 := fun h => h2 (Int32.toInt_inj.mp h)
  have e3 : ¬ x.toInt = 3 := fun h => h3 (Int32.toInt_inj.mp h)
  omega
theorem kn_lw2 (x : Int32) : x = 0 ∨ x = 1 ∨ ((¬ x = 0 ∧ ¬ x = 1) ∧ Op.lookupswitch.offset [(0, 25), (1, 34)] 43 x.toInt = 43) := by
  by_cases h0 : x = 0; · exact Or.inl h0
  by_cases h1 : x = 1; · exact Or.inr (Or.inl h1)
  refine Or.inr (Or.inr ⟨⟨h0, h1⟩, ?_⟩)
  rw [lv_osw (k := 0) (a := 0) h0 rfl, lv_osw (k := 1) (a := 1) h1 rfl]
  rfl
def kf_fdiv (x y : Int32) : Int32 := if 0 ≤ x ^^^ y then x / y else if x / y * y = x then x / y else x / y - 1
def kf_cell (speed load : Int32) : Int32 := 4 * kf_min ((speed - 500) / 1000) 5 + kf_min (load / 25) 3
def kf_badv (speed load : Int32) : Int32 := 100 + speed / 50 - load
def kf_klim (speed load octane : Int32) : Int32 := 150 + speed / 60 - load * 3 / 2 + (octane - 95) * 8
def kf_within (v lo hi : Int32) : Int32 := if v < lo then 0 else if hi < v then 0 else 1
def kf_place (s : kn_S) (l : Nat) (e : Int32) : Int32 := (s l 3 + e) - (s l 3 + e) / 60 * 60
def kf_note (s : kn_S) (l : Nat) (k n f : Int32) : kn_S :=
  let p := kf_place s l (s l 4)
  let s1 := if 60 ≤ s l 4 then kn_up s l 3 (kf_place s l 1) else kn_up s l 4 (s l 4 + 1)
  let s2 := kf_put s1 (l + 2) 60 p k
  let s3 := kf_put s2 (l + 4) 60 p n
  kf_put s3 (l + 6) 60 p f
def kf_about (s : kn_S) (l : Nat) (e w : Int32) : Int32 := if w = 0 then kf_at (s (l + 2)) 60 (kf_place s l e) else if w = 1 then kf_at (s (l + 4)) 60 (kf_place s l e) else kf_at (s (l + 6)) 60 (kf_place s l e)
def kf_logcpy (s : kn_S) (l l2 : Nat) : kn_S :=
  let s1 := kf_cpy s (l + 2) (s (l2 + 2)) 60
  let s2 := kf_cpy s1 (l + 4) (s1 (l2 + 4)) 60
  let s3 := kf_cpy s2 (l + 6) (s2 (l2 + 6)) 60
  let s4 := kn_up s3 l 3 (s3 l2 3)
  kn_up s4 l 4 (s4 l2 4)
def kf_thr (s : kn_S) (b : Nat) (c : Int32) : Int32 := kf_at (s (b + 6)) 8 c * kf_at (s (b + 2)) 8 0 / 4096 + 50
def kf_ret (s : kn_S) (b : Nat) (c cell : Int32) : Int32 := kf_min ((if s b 12 = 0 then kf_at (s (b + 4)) 8 c else kf_at (s (b + 2)) 8 7) + kf_at (s (b + 12)) 24 cell) (kf_at (s (b + 2)) 8 3)
def kf_adv (s : kn_S) (b : Nat) (c speed load : Int32) : Int32 := kf_badv speed load - kf_ret s b c (kf_cell speed load)
def kf_setOr (s : kn_S) (b : Nat) (w : Int32) : Int32 := if w = 8 then s b 7 else kf_at (s (b + 2)) 8 w
def kf_aboutCyl (s : kn_S) (b : Nat) (c w : Int32) : Int32 := if w = 0 then kf_at (s (b + 4)) 8 c else if w = 1 then kf_at (s (b + 6)) 8 c else if w = 2 then kf_at (s (b + 8)) 8 c else if w = 3 then kf_thr s b c else kf_at (s (b + 10)) 8 c
def kf_aboutCtl (s : kn_S) (b : Nat) (w : Int32) : Int32 := if w = 0 then (if s b 12 = 0 then 0 else 1) else if w = 1 then s b 10 else if w = 2 then s b 11 else if w = 3 then s b 8 else s b 9
def kf_lower (s : kn_S) (b : Nat) (c : Int32) : kn_S := if kf_at (s (b + 4)) 8 c ≤ 0 then s else kf_put s (b + 4) 8 c (s (b + 4) c.toNatClampNeg + (-1))
def kf_rfast (s : kn_S) (b : Nat) (c cell e t : Int32) : kn_S :=
  let step := kf_at (s (b + 2)) 8 1
  let ex := if t ≤ 0 then 0 else step * (e - t) / t
  kf_put s (b + 4) 8 c (kf_max (kf_at (s (b + 4)) 8 c) (kf_min (kf_at (s (b + 4)) 8 c + step + kf_min (3 * step) ex) (kf_at (s (b + 2)) 8 3 - kf_at (s (b + 12)) 24 cell)))
def kf_listenK (s : kn_S) (b : Nat) (c cell e : Int32) : kn_S :=
  let s1 := kf_rfast s b c cell e (kf_thr s b c)
  let s2 := kf_put s1 (b + 8) 8 c 0
  let s3 := kf_put s2 (b + 10) 8 c (s2 (b + 10) c.toNatClampNeg + 1)
  kf_note s3 (b + 13) 0 c (s3 b 13)
def kf_listenQ (s : kn_S) (b : Nat) (c e : Int32) : kn_S :=
  let s1 := kf_put s (b + 6) 8 c (s (b + 6) c.toNatClampNeg + kf_fdiv (256 * e - kf_at (s (b + 6)) 8 c) 16)
  let s2 := kf_put s1 (b + 8) 8 c (s1 (b + 8) c.toNatClampNeg + 1)
  if kf_at (s2 (b + 8)) 8 c < kf_at (s2 (b + 2)) 8 2 then s2 else kf_lower (kf_put s2 (b + 8) 8 c 0) b c
def kf_lo (s : kn_S) (b : Nat) (c e : Int32) : Int32 := if e ≤ kf_thr s b c then 0 else 1
def kf_listen (s : kn_S) (b : Nat) (c cell e : Int32) : kn_S := if e ≤ kf_thr s b c then kf_listenQ s b c e else kf_listenK s b c cell e
def kf_w1 (s : kn_S) (b : Nat) (e : Int32) : kn_S :=
  if kf_at (s (b + 2)) 8 6 ≤ e then (let s1 := kn_up s b 10 0; kn_up s1 b 11 (s1 b 11 + 1)) else (let s1 := kn_up s b 10 (s b 10 + 1); kn_up s1 b 11 0)
def kf_w3 (s : kn_S) (b : Nat) : kn_S := if s b 12 = 0 then s else if s b 11 < 50 then s else (let s1 := kn_up s b 12 0; kf_note s1 (b + 13) 2 0 (s1 b 13))
def kf_w2 (s : kn_S) (b : Nat) : kn_S := if s b 12 = 0 then (if s b 10 < 20 then kf_w3 s b else (let s1 := kn_up s b 12 1; kf_note s1 (b + 13) 1 0 (s1 b 13))) else kf_w3 s b
def kf_watch (s : kn_S) (b : Nat) (e : Int32) : kn_S := kf_w2 (kf_w1 s b e) b

set_option maxRecDepth 100000 in
set_option maxHeartbeats 4000000 in
theorem m_J9_max_7cf53 {X : kn_X} {σ : kn_S} {τ : kn_T} {z : kn_Z} {c n : Nat} {Q : kn_Q} {x y : Int32}  (hQ : Q (.inl (some (.int (kf_max x y)))) σ τ z) : kn_Ev X MJ9_max_7cf53 [.int x, .int y] σ τ z c n Q := by
  refine kn_entryJ (by decide +kernel) rfl (Nat.le_of_ble_eq_true rfl) ?_
  show kn_Go X MJ9_max_7cf53 0 [(0, .int x), (1, .int y)] [] _ _ _ _ _ _
  refine k_iload_n 0 dJ9_max_7cf53_0 rfl rfl ?_
  refine k_iload_n 1 dJ9_max_7cf53_1 rfl rfl ?_
  refine k_icmplt 9 dJ9_max_7cf53_2 (by decide) (fun h2 => ?_) (fun h2 => ?_)
  · refine k_iload_n 1 dJ9_max_7cf53_9 rfl rfl ?_
    refine k_iret dJ9_max_7cf53_10 rfl (rfl) ?_
    dsimp only [kf_max] at hQ
    rw [if_pos h2] at hQ
    exact hQ
  · refine k_iload_n 0 dJ9_max_7cf53_5 rfl rfl ?_
    refine k_goto 10 dJ9_max_7cf53_6 (by decide) ?_
    refine k_iret dJ9_max_7cf53_10 rfl (rfl) ?_
    dsimp only [kf_max] at hQ
    rw [if_neg h2] at hQ
    exact hQ

set_option maxRecDepth 100000 in
set_option maxHeartbeats 4000000 in
theorem m_J9_min_7cf53 {X : kn_X} {σ : kn_S} {τ : kn_T} {z : kn_Z} {c n : Nat} {Q : kn_Q} {x y : Int32}  (hQ : Q (.inl (some (.int (kf_min x y)))) σ τ z) : kn_Ev X MJ9_min_7cf53 [.int x, .int y] σ τ z c n Q := by
  refine kn_entryJ (by decide +kernel) rfl (Nat.le_of_ble_eq_true rfl) ?_
  show kn_Go X MJ9_min_7cf53 0 [(0, .int x), (1, .int y)] [] _ _ _ _ _ _
  refine k_iload_n 0 dJ9_min_7cf53_0 rfl rfl ?_
  refine k_iload_n 1 dJ9_min_7cf53_1 rfl rfl ?_
  refine k_icmpgt 9 dJ9_min_7cf53_2 (by decide) (fun h2 => ?_) (fun h2 => ?_)
  · refine k_iload_n 1 dJ9_min_7cf53_9 rfl rfl ?_
    refine k_iret dJ9_min_7cf53_10 rfl (rfl) ?_
    dsimp only [kf_min] at hQ
    rw [if_pos h2] at hQ
    exact hQ
  · refine k_iload_n 0 dJ9_min_7cf53_5 rfl rfl ?_
    refine k_goto 10 dJ9_min_7cf53_6 (by decide) ?_
    refine k_iret dJ9_min_7cf53_10 rfl (rfl) ?_
    dsimp only [kf_min] at hQ
    rw [if_neg h2] at hQ
    exact hQ

set_option maxRecDepth 100000 in
set_option maxHeartbeats 4000000 in
theorem m_J9_floorDiv_7cf53 {X : kn_X} {σ : kn_S} {τ : kn_T} {z : kn_Z} {c n : Nat} {Q : kn_Q} {x y : Int32} (hy : ¬ y = 0) (hQ : Q (.inl (some (.int (kf_fdiv x y)))) σ τ z) : kn_Ev X MJ9_floorDiv_7cf53 [.int x, .int y] σ τ z c n Q := by
  refine kn_entryJ (by decide +kernel) rfl (Nat.le_of_ble_eq_true rfl) ?_
  show kn_Go X MJ9_floorDiv_7cf53 0 [(0, .int x), (1, .int y)] [] _ _ _ _ _ _
  refine k_iload_n 0 dJ9_floorDiv_7cf53_0 rfl rfl ?_
  refine k_iload_n 1 dJ9_floorDiv_7cf53_1 rfl rfl ?_
  refine k_idiv dJ9_floorDiv_7cf53_2 (hy) ?_
  refine k_istore_n 2 (lv' := [(2, _), (0, _), (1, _)]) dJ9_floorDiv_7cf53_3 rfl (by decide) rfl ?_
  refine k_iload_n 0 dJ9_floorDiv_7cf53_4 rfl rfl ?_
  refine k_iload_n 1 dJ9_floorDiv_7cf53_5 rfl rfl ?_
  refine k_ixor dJ9_floorDiv_7cf53_6 ?_
  refine k_ifge 21 dJ9_floorDiv_7cf53_7 (by decide) (fun h7 => ?_) (fun h7 => ?_)
  · refine k_iload_n 2 dJ9_floorDiv_7cf53_21 rfl rfl ?_
    refine k_iret dJ9_floorDiv_7cf53_22 rfl (rfl) ?_
    dsimp only [kf_fdiv] at hQ
    rw [if_pos h7] at hQ
    exact hQ
  · refine k_iload_n 2 dJ9_floorDiv_7cf53_10 rfl rfl ?_
    refine k_iload_n 1 dJ9_floorDiv_7cf53_11 rfl rfl ?_
    refine k_imul dJ9_floorDiv_7cf53_12 ?_
    refine k_iload_n 0 dJ9_floorDiv_7cf53_13 rfl rfl ?_
    refine k_icmpeq 21 dJ9_floorDiv_7cf53_14 (by decide) (fun h14 => ?_) (fun h14 => ?_)
    · refine k_iload_n 2 dJ9_floorDiv_7cf53_21 rfl rfl ?_
      refine k_iret dJ9_floorDiv_7cf53_22 rfl (rfl) ?_
      dsimp only [kf_fdiv] at hQ
      rw [if_neg h7, if_pos h14] at hQ
      exact hQ
    · refine k_iload_n 2 dJ9_floorDiv_7cf53_17 rfl rfl ?_
      refine k_iconst (1) dJ9_floorDiv_7cf53_18 (by decide) ?_
      refine k_isub dJ9_floorDiv_7cf53_19 ?_
      refine k_iret dJ9_floorDiv_7cf53_20 rfl (rfl) ?_
      dsimp only [kf_fdiv] at hQ
      rw [if_neg h7, if_neg h14] at hQ
      exact hQ

set_option maxRecDepth 100000 in
set_option maxHeartbeats 4000000 in
theorem m_X0_cellOf {X : kn_X} {σ : kn_S} {τ : kn_T} {z : kn_Z} {c n : Nat} {Q : kn_Q} {x y : Int32}  (hQ : Q (.inl (some (.int (kf_cell x y)))) σ τ z) : kn_Ev X MX0_cellOf [.int x, .int y] σ τ z c n Q := by
  refine kn_entry (by decide +kernel) rfl (Nat.le_of_ble_eq_true rfl) ?_
  show kn_Go X MX0_cellOf 0 [(0, .int x), (1, .int y)] [] _ _ _ _ _ _
  refine k_iload_n 0 dX0_cellOf_0 rfl rfl ?_
  refine k_sipush (500) dX0_cellOf_1 (by decide) ?_
  refine k_isub dX0_cellOf_4 ?_
  refine k_sipush (1000) dX0_cellOf_5 (by decide) ?_
  refine k_idiv dX0_cellOf_8 (by decide) ?_
  refine k_iconst (5) dX0_cellOf_9 (by decide) ?_
  refine k_invS (As := [_, _]) dX0_cellOf_10 mm_J9_min_7cf53 wL_X0_9 ⟨by decide, by decide⟩ rfl rfl (Nat.le_of_ble_eq_true rfl) (Nat.zero_le _) (Nat.zero_le _) (m_J9_min_7cf53 ⟨rfl, ?_⟩)
  refine k_istore_n 2 (lv' := [(2, _), (0, _), (1, _)]) dX0_cellOf_13 rfl (by decide) rfl ?_
  refine k_iload_n 1 dX0_cellOf_14 rfl rfl ?_
  refine k_bipush (25) dX0_cellOf_15 (by decide) ?_
  refine k_idiv dX0_cellOf_17 (by decide) ?_
  refine k_iconst (3) dX0_cellOf_18 (by decide) ?_
  refine k_invS (As := [_, _]) dX0_cellOf_19 mm_J9_min_7cf53 wL_X0_9 ⟨by decide, by decide⟩ rfl rfl (Nat.le_of_ble_eq_true rfl) (Nat.zero_le _) (Nat.zero_le _) (m_J9_min_7cf53 ⟨rfl, ?_⟩)
  refine k_istore_n 3 (lv' := [(3, _), (2, _), (0, _), (1, _)]) dX0_cellOf_22 rfl (by decide) rfl ?_
  refine k_iconst (4) dX0_cellOf_23 (by decide) ?_
  refine k_iload_n 2 dX0_cellOf_24 rfl rfl ?_
  refine k_imul dX0_cellOf_25 ?_
  refine k_iload_n 3 dX0_cellOf_26 rfl rfl ?_
  refine k_iadd dX0_cellOf_27 ?_
  refine k_iret dX0_cellOf_28 rfl (rfl) ?_
  exact hQ

set_option maxRecDepth 100000 in
set_option maxHeartbeats 4000000 in
theorem m_X0_basicAdvance {X : kn_X} {σ : kn_S} {τ : kn_T} {z : kn_Z} {c n : Nat} {Q : kn_Q} {x y : Int32}  (hQ : Q (.inl (some (.int (kf_badv x y)))) σ τ z) : kn_Ev X MX0_basicAdvance [.int x, .int y] σ τ z c n Q := by
  refine kn_entry (by decide +kernel) rfl (Nat.le_of_ble_eq_true rfl) ?_
  show kn_Go X MX0_basicAdvance 0 [(0, .int x), (1, .int y)] [] _ _ _ _ _ _
  refine k_bipush (100) dX0_basicAdvance_0 (by decide) ?_
  refine k_iload_n 0 dX0_basicAdvance_2 rfl rfl ?_
  refine k_bipush (50) dX0_basicAdvance_3 (by decide) ?_
  refine k_idiv dX0_basicAdvance_5 (by decide) ?_
  refine k_iadd dX0_basicAdvance_6 ?_
  refine k_iload_n 1 dX0_basicAdvance_7 rfl rfl ?_
  refine k_isub dX0_basicAdvance_8 ?_
  refine k_iret dX0_basicAdvance_9 rfl (rfl) ?_
  exact hQ

set_option maxRecDepth 100000 in
set_option maxHeartbeats 4000000 in
theorem m_X0_knockLimit {X : kn_X} {σ : kn_S} {τ : kn_T} {z : kn_Z} {c n : Nat} {Q : kn_Q} {x y w : Int32}  (hQ : Q (.inl (some (.int (kf_klim x y w)))) σ τ z) : kn_Ev X MX0_knockLimit [.int x, .int y, .int w] σ τ z c n Q := by
  refine kn_entry (by decide +kernel) rfl (Nat.le_of_ble_eq_true rfl) ?_
  show kn_Go X MX0_knockLimit 0 [(0, .int x), (1, .int y), (2, .int w)] [] _ _ _ _ _ _
  refine k_sipush (150) dX0_knockLimit_0 (by decide) ?_
  refine k_iload_n 0 dX0_knockLimit_3 rfl rfl ?_
  refine k_bipush (60) dX0_knockLimit_4 (by decide) ?_
  refine k_idiv dX0_knockLimit_6 (by decide) ?_
  refine k_iadd dX0_knockLimit_7 ?_
  refine k_iload_n 1 dX0_knockLimit_8 rfl rfl ?_
  refine k_iconst (3) dX0_knockLimit_9 (by decide) ?_
  refine k_imul dX0_knockLimit_10 ?_
  refine k_iconst (2) dX0_knockLimit_11 (by decide) ?_
  refine k_idiv dX0_knockLimit_12 (by decide) ?_
  refine k_isub dX0_knockLimit_13 ?_
  refine k_iload_n 2 dX0_knockLimit_14 rfl rfl ?_
  refine k_bipush (95) dX0_knockLimit_15 (by decide) ?_
  refine k_isub dX0_knockLimit_17 ?_
  refine k_bipush (8) dX0_knockLimit_18 (by decide) ?_
  refine k_imul dX0_knockLimit_20 ?_
  refine k_iadd dX0_knockLimit_21 ?_
  refine k_iret dX0_knockLimit_22 rfl (rfl) ?_
  exact hQ

set_option maxRecDepth 100000 in
set_option maxHeartbeats 4000000 in
theorem m_X6_within {X : kn_X} {σ : kn_S} {τ : kn_T} {z : kn_Z} {c n : Nat} {Q : kn_Q} {x y w : Int32}  (hQ : Q (.inl (some (.int (kf_within x y w)))) σ τ z) : kn_Ev X MX6_within [.int x, .int y, .int w] σ τ z c n Q := by
  refine kn_entry (by decide +kernel) rfl (Nat.le_of_ble_eq_true rfl) ?_
  show kn_Go X MX6_within 0 [(0, .int x), (1, .int y), (2, .int w)] [] _ _ _ _ _ _
  refine k_iload_n 0 dX6_within_0 rfl rfl ?_
  refine k_iload_n 1 dX6_within_1 rfl rfl ?_
  refine k_icmplt 14 dX6_within_2 (by decide) (fun h2 => ?_) (fun h2 => ?_)
  · refine k_iconst (0) dX6_within_14 (by decide) ?_
    refine k_iret dX6_within_15 rfl (rfl) ?_
    dsimp only [kf_within] at hQ
    rw [if_pos h2] at hQ
    exact hQ
  · refine k_iload_n 0 dX6_within_5 rfl rfl ?_
    refine k_iload_n 2 dX6_within_6 rfl rfl ?_
    refine k_icmpgt 14 dX6_within_7 (by decide) (fun h7 => ?_) (fun h7 => ?_)
    · refine k_iconst (0) dX6_within_14 (by decide) ?_
      refine k_iret dX6_within_15 rfl (rfl) ?_
      dsimp only [kf_within] at hQ
      rw [if_neg h2, if_pos h7] at hQ
      exact hQ
    · refine k_iconst (1) dX6_within_10 (by decide) ?_
      refine k_goto 15 dX6_within_11 (by decide) ?_
      refine k_iret dX6_within_15 rfl (rfl) ?_
      dsimp only [kf_within] at hQ
      rw [if_neg h2, if_neg h7] at hQ
      exact hQ

set_option maxRecDepth 100000 in
set_option maxHeartbeats 4000000 in
theorem m_X3_placeOf {X : kn_X} {σ : kn_S} {τ : kn_T} {z : kn_Z} {c n : Nat} {Q : kn_Q} {l : Nat} {e : Int32} (hg : kn_isLog z l) (hQ : Q (.inl (some (.int (kf_place σ l e)))) σ τ z) : kn_Ev X MX3_placeOf [.ref l, .int e] σ τ z c n Q := by
  refine kn_entry (by decide +kernel) rfl (Nat.le_of_ble_eq_true rfl) ?_
  show kn_Go X MX3_placeOf 0 [(0, .ref l), (1, .int e)] [] _ _ _ _ _ _
  refine k_aload_n 0 dX3_placeOf_0 rfl rfl ?_
  refine k_getfield dX3_placeOf_1 hc_X3 hg.1.1 hg.1.2 3 (by decide) wF_X3_30 rfl ?_
  refine k_iload_n 1 dX3_placeOf_4 rfl rfl ?_
  refine k_iadd dX3_placeOf_5 ?_
  refine k_bipush (60) dX3_placeOf_6 (by decide) ?_
  refine k_irem dX3_placeOf_8 (by decide) ?_
  refine k_iret dX3_placeOf_9 rfl (rfl) ?_
  exact hQ

set_option maxRecDepth 100000 in
set_option maxHeartbeats 4000000 in
theorem m_X3_size {X : kn_X} {σ : kn_S} {τ : kn_T} {z : kn_Z} {c n : Nat} {Q : kn_Q} {l : Nat} (hg : kn_isLog z l) (hQ : Q (.inl (some (.int (σ l 4)))) σ τ z) : kn_Ev X MX3_size [.ref l] σ τ z c n Q := by
  refine kn_entry (by decide +kernel) rfl (Nat.le_of_ble_eq_true rfl) ?_
  show kn_Go X MX3_size 0 [(0, .ref l)] [] _ _ _ _ _ _
  refine k_aload_n 0 dX3_size_0 rfl rfl ?_
  refine k_getfield dX3_size_1 hc_X3 hg.1.1 hg.1.2 4 (by decide) wF_X3_26 rfl ?_
  refine k_iret dX3_size_4 rfl (rfl) ?_
  exact hQ

set_option maxRecDepth 100000 in
set_option maxHeartbeats 4000000 in
theorem m_X3_empty {X : kn_X} {σ : kn_S} {τ : kn_T} {z : kn_Z} {c n : Nat} {Q : kn_Q} {l : Nat} (hg : kn_isLog z l) (hQ : Q (.inl none) (kn_up (kn_up σ l 3 0) l 4 0) τ z) : kn_Ev X MX3_empty [.ref l] σ τ z c n Q := by
  refine kn_entry (by decide +kernel) rfl (Nat.le_of_ble_eq_true rfl) ?_
  show kn_Go X MX3_empty 0 [(0, .ref l)] [] _ _ _ _ _ _
  refine k_aload_n 0 dX3_empty_0 rfl rfl ?_
  refine k_iconst (0) dX3_empty_1 (by decide) ?_
  refine k_putfield dX3_empty_2 hc_X3 hg.1.1 hg.1.2 3 (by decide) wF_X3_30 rfl rfl (t9 := .int) (by decide +kernel) rfl rfl ?_
  refine k_aload_n 0 dX3_empty_5 rfl rfl ?_
  refine k_iconst (0) dX3_empty_6 (by decide) ?_
  refine k_putfield dX3_empty_7 hc_X3 hg.1.1 hg.1.2 4 (by decide) wF_X3_26 rfl rfl (t9 := .int) (by decide +kernel) rfl rfl ?_
  refine k_vret dX3_empty_10 rfl ?_
  exact hQ

set_option maxRecDepth 100000 in
set_option maxHeartbeats 4000000 in
theorem m_X3_note {X : kn_X} {σ : kn_S} {τ : kn_T} {z : kn_Z} {c n : Nat} {Q : kn_Q} {l : Nat} {k m f : Int32} (hg : kn_isLog z l) (hQ : Q (.inl none) (kf_note σ l k m f) τ z) : kn_Ev X MX3_note [.ref l, .int k, .int m, .int f] σ τ z c n Q := by
  refine kn_entry (by decide +kernel) rfl (Nat.le_of_ble_eq_true rfl) ?_
  show kn_Go X MX3_note 0 [(0, .ref l), (1, .int k), (2, .int m), (3, .int f)] [] _ _ _ _ _ _
  refine k_aload_n 0 dX3_note_0 rfl rfl ?_
  refine k_aload_n 0 dX3_note_1 rfl rfl ?_
  refine k_getfield dX3_note_2 hc_X3 hg.1.1 hg.1.2 4 (by decide) wF_X3_26 rfl ?_
  refine k_invV (As := [_]) dX3_note_5 mm_X3_placeOf wL_X3_33 ⟨by decide, by decide⟩ hg.1.1 hg.1.2 rfl rfl (Nat.le_of_ble_eq_true rfl) (Nat.zero_le _) (Nat.zero_le _) (m_X3_placeOf hg ⟨rfl, ?_⟩)
  refine k_istore (lv' := [(4, _), (0, _), (1, _), (2, _), (3, _)]) dX3_note_8 (by decide) rfl ?_
  refine k_aload_n 0 dX3_note_10 rfl rfl ?_
  refine k_getfield dX3_note_11 hc_X3 hg.1.1 hg.1.2 4 (by decide) wF_X3_26 rfl ?_
  refine k_bipush (60) dX3_note_14 (by decide) ?_
  refine k_icmpge 32 dX3_note_16 (by decide) (fun h16 => ?_) (fun h16 => ?_)
  · refine k_aload_n 0 dX3_note_32 rfl rfl ?_
    refine k_aload_n 0 dX3_note_33 rfl rfl ?_
    refine k_iconst (1) dX3_note_34 (by decide) ?_
    refine k_invV (As := [_]) dX3_note_35 mm_X3_placeOf wL_X3_33 ⟨by decide, by decide⟩ hg.1.1 hg.1.2 rfl rfl (Nat.le_of_ble_eq_true rfl) (Nat.zero_le _) (Nat.zero_le _) (m_X3_placeOf hg ⟨rfl, ?_⟩)
    refine k_putfield dX3_note_38 hc_X3 hg.1.1 hg.1.2 3 (by decide) wF_X3_30 rfl rfl (t9 := .int) (by decide +kernel) rfl rfl ?_
    refine k_aload_n 0 dX3_note_41 rfl rfl ?_
    refine k_getfield dX3_note_42 hc_X3 hg.1.1 hg.1.2 0 (by decide) wF_X3_14 rfl ?_
    refine k_iload dX3_note_45 rfl ?_
    refine k_iload_n 1 dX3_note_47 rfl rfl ?_
    refine k_invV (As := [_, _]) dX3_note_48 mm_X4_put wL_X3_37 ⟨by decide, by decide⟩ hg.2.1.1.1 hg.2.1.1.2 rfl rfl (Nat.le_of_ble_eq_true rfl) (Nat.zero_le _) (Nat.zero_le _) (m_X4_put hg.2.1 (Nat.le_of_ble_eq_true rfl) ⟨rfl, ?_⟩)
    refine k_aload_n 0 dX3_note_51 rfl rfl ?_
    refine k_getfield dX3_note_52 hc_X3 hg.1.1 hg.1.2 1 (by decide) wF_X3_20 rfl ?_
    refine k_iload dX3_note_55 rfl ?_
    refine k_iload_n 2 dX3_note_57 rfl rfl ?_
    refine k_invV (As := [_, _]) dX3_note_58 mm_X4_put wL_X3_37 ⟨by decide, by decide⟩ hg.2.2.1.1.1 hg.2.2.1.1.2 rfl rfl (Nat.le_of_ble_eq_true rfl) (Nat.zero_le _) (Nat.zero_le _) (m_X4_put hg.2.2.1 (Nat.le_of_ble_eq_true rfl) ⟨rfl, ?_⟩)
    refine k_aload_n 0 dX3_note_61 rfl rfl ?_
    refine k_getfield dX3_note_62 hc_X3 hg.1.1 hg.1.2 2 (by decide) wF_X3_23 rfl ?_
    refine k_iload dX3_note_65 rfl ?_
    refine k_iload_n 3 dX3_note_67 rfl rfl ?_
    refine k_invV (As := [_, _]) dX3_note_68 mm_X4_put wL_X3_37 ⟨by decide, by decide⟩ hg.2.2.2.1.1 hg.2.2.2.1.2 rfl rfl (Nat.le_of_ble_eq_true rfl) (Nat.zero_le _) (Nat.zero_le _) (m_X4_put hg.2.2.2 (Nat.le_of_ble_eq_true rfl) ⟨rfl, ?_⟩)
    refine k_vret dX3_note_71 rfl ?_
    dsimp only [kf_note] at hQ
    rw [if_pos h16] at hQ
    exact hQ
  · refine k_aload_n 0 dX3_note_19 rfl rfl ?_
    refine k_dup dX3_note_20 rfl ?_
    refine k_getfield dX3_note_21 hc_X3 hg.1.1 hg.1.2 4 (by decide) wF_X3_26 rfl ?_
    refine k_iconst (1) dX3_note_24 (by decide) ?_
    refine k_iadd dX3_note_25 ?_
    refine k_putfield dX3_note_26 hc_X3 hg.1.1 hg.1.2 4 (by decide) wF_X3_26 rfl rfl (t9 := .int) (by decide +kernel) rfl rfl ?_
    refine k_goto 41 dX3_note_29 (by decide) ?_
    refine k_aload_n 0 dX3_note_41 rfl rfl ?_
    refine k_getfield dX3_note_42 hc_X3 hg.1.1 hg.1.2 0 (by decide) wF_X3_14 rfl ?_
    refine k_iload dX3_note_45 rfl ?_
    refine k_iload_n 1 dX3_note_47 rfl rfl ?_
    refine k_invV (As := [_, _]) dX3_note_48 mm_X4_put wL_X3_37 ⟨by decide, by decide⟩ hg.2.1.1.1 hg.2.1.1.2 rfl rfl (Nat.le_of_ble_eq_true rfl) (Nat.zero_le _) (Nat.zero_le _) (m_X4_put hg.2.1 (Nat.le_of_ble_eq_true rfl) ⟨rfl, ?_⟩)
    refine k_aload_n 0 dX3_note_51 rfl rfl ?_
    refine k_getfield dX3_note_52 hc_X3 hg.1.1 hg.1.2 1 (by decide) wF_X3_20 rfl ?_
    refine k_iload dX3_note_55 rfl ?_
    refine k_iload_n 2 dX3_note_57 rfl rfl ?_
    refine k_invV (As := [_, _]) dX3_note_58 mm_X4_put wL_X3_37 ⟨by decide, by decide⟩ hg.2.2.1.1.1 hg.2.2.1.1.2 rfl rfl (Nat.le_of_ble_eq_true rfl) (Nat.zero_le _) (Nat.zero_le _) (m_X4_put hg.2.2.1 (Nat.le_of_ble_eq_true rfl) ⟨rfl, ?_⟩)
    refine k_aload_n 0 dX3_note_61 rfl rfl ?_
    refine k_getfield dX3_note_62 hc_X3 hg.1.1 hg.1.2 2 (by decide) wF_X3_23 rfl ?_
    refine k_iload dX3_note_65 rfl ?_
    refine k_iload_n 3 dX3_note_67 rfl rfl ?_
    refine k_invV (As := [_, _]) dX3_note_68 mm_X4_put wL_X3_37 ⟨by decide, by decide⟩ hg.2.2.2.1.1 hg.2.2.2.1.2 rfl rfl (Nat.le_of_ble_eq_true rfl) (Nat.zero_le _) (Nat.zero_le _) (m_X4_put hg.2.2.2 (Nat.le_of_ble_eq_true rfl) ⟨rfl, ?_⟩)
    refine k_vret dX3_note_71 rfl ?_
    dsimp only [kf_note] at hQ
    rw [if_neg h16] at hQ
    exact hQ

set_option maxRecDepth 100000 in
set_option maxHeartbeats 4000000 in
theorem m_X3_about {X : kn_X} {σ : kn_S} {τ : kn_T} {z : kn_Z} {c n : Nat} {Q : kn_Q} {l : Nat} {e w : Int32} (hg : kn_isLog z l) (hQ : Q (.inl (some (.int (kf_about σ l e w)))) σ τ z) : kn_Ev X MX3_about [.ref l, .int e, .int w] σ τ z c n Q := by
  refine kn_entry (by decide +kernel) rfl (Nat.le_of_ble_eq_true rfl) ?_
  show kn_Go X MX3_about 0 [(0, .ref l), (1, .int e), (2, .int w)] [] _ _ _ _ _ _
  refine k_aload_n 0 dX3_about_0 rfl rfl ?_
  refine k_iload_n 1 dX3_about_1 rfl rfl ?_
  refine k_invV (As := [_]) dX3_about_2 mm_X3_placeOf wL_X3_33 ⟨by decide, by decide⟩ hg.1.1 hg.1.2 rfl rfl (Nat.le_of_ble_eq_true rfl) (Nat.zero_le _) (Nat.zero_le _) (m_X3_placeOf hg ⟨rfl, ?_⟩)
  refine k_istore_n 3 (lv' := [(3, _), (0, _), (1, _), (2, _)]) dX3_about_5 rfl (by decide) rfl ?_
  refine k_iload_n 2 dX3_about_6 rfl rfl ?_
  rcases kn_lw2 w with hsw | hsw | hsw
  · rw [hsw]
    refine k_lsw 32 dX3_about_7 (by decide) rfl (by decide) ?_
    refine k_aload_n 0 dX3_about_32 rfl rfl ?_
    refine k_getfield dX3_about_33 hc_X3 hg.1.1 hg.1.2 0 (by decide) wF_X3_14 rfl ?_
    refine k_iload_n 3 dX3_about_36 rfl rfl ?_
    refine k_invV (As := [_]) dX3_about_37 mm_X4_at wL_X3_41 ⟨by decide, by decide⟩ hg.2.1.1.1 hg.2.1.1.2 rfl rfl (Nat.le_of_ble_eq_true rfl) (Nat.zero_le _) (Nat.zero_le _) (m_X4_at hg.2.1 (Nat.le_of_ble_eq_true rfl) ⟨rfl, ?_⟩)
    refine k_iret dX3_about_40 rfl (rfl) ?_
    rw [hsw] at hQ
    dsimp only [kf_about] at hQ
    rw [if_pos rfl] at hQ
    exact hQ
  · rw [hsw]
    refine k_lsw 41 dX3_about_7 (by decide) rfl (by decide) ?_
    refine k_aload_n 0 dX3_about_41 rfl rfl ?_
    refine k_getfield dX3_about_42 hc_X3 hg.1.1 hg.1.2 1 (by decide) wF_X3_20 rfl ?_
    refine k_iload_n 3 dX3_about_45 rfl rfl ?_
    refine k_invV (As := [_]) dX3_about_46 mm_X4_at wL_X3_41 ⟨by decide, by decide⟩ hg.2.2.1.1.1 hg.2.2.1.1.2 rfl rfl (Nat.le_of_ble_eq_true rfl) (Nat.zero_le _) (Nat.zero_le _) (m_X4_at hg.2.2.1 (Nat.le_of_ble_eq_true rfl) ⟨rfl, ?_⟩)
    refine k_iret dX3_about_49 rfl (rfl) ?_
    rw [hsw] at hQ
    dsimp only [kf_about] at hQ
    rw [if_neg (by decide), if_pos rfl] at hQ
    exact hQ
  · refine k_lsw 50 dX3_about_7 (by decide) hsw.2 (by decide) ?_
    refine k_aload_n 0 dX3_about_50 rfl rfl ?_
    refine k_getfield dX3_about_51 hc_X3 hg.1.1 hg.1.2 2 (by decide) wF_X3_23 rfl ?_
    refine k_iload_n 3 dX3_about_54 rfl rfl ?_
    refine k_invV (As := [_]) dX3_about_55 mm_X4_at wL_X3_41 ⟨by decide, by decide⟩ hg.2.2.2.1.1 hg.2.2.2.1.2 rfl rfl (Nat.le_of_ble_eq_true rfl) (Nat.zero_le _) (Nat.zero_le _) (m_X4_at hg.2.2.2 (Nat.le_of_ble_eq_true rfl) ⟨rfl, ?_⟩)
    refine k_iret dX3_about_58 rfl (rfl) ?_
    dsimp only [kf_about] at hQ
    rw [if_neg hsw.1.1, if_neg hsw.1.2] at hQ
    exact hQ

set_option maxRecDepth 100000 in
set_option maxHeartbeats 4000000 in
theorem m_X3_copy {X : kn_X} {σ : kn_S} {τ : kn_T} {z : kn_Z} {c n : Nat} {Q : kn_Q} {l l2 : Nat} (hg : kn_isLog z l) (hg2 : kn_isLog z l2) (hQ : Q (.inl none) (kf_logcpy σ l l2) τ z) : kn_Ev X MX3_copy [.ref l, .ref l2] σ τ z c n Q := by
  refine kn_entry (by decide +kernel) rfl (Nat.le_of_ble_eq_true rfl) ?_
  show kn_Go X MX3_copy 0 [(0, .ref l), (1, .ref l2)] [] _ _ _ _ _ _
  refine k_aload_n 0 dX3_copy_0 rfl rfl ?_
  refine k_getfield dX3_copy_1 hc_X3 hg.1.1 hg.1.2 0 (by decide) wF_X3_14 rfl ?_
  refine k_aload_n 1 dX3_copy_4 rfl rfl ?_
  refine k_getfield dX3_copy_5 hc_X3 hg2.1.1 hg2.1.2 0 (by decide) wF_X3_14 rfl ?_
  refine k_invV (As := [_]) dX3_copy_8 mm_X4_copy wL_X3_44 ⟨by decide, by decide⟩ hg.2.1.1.1 hg.2.1.1.2 rfl rfl (Nat.le_of_ble_eq_true rfl) (Nat.zero_le _) (Nat.zero_le _) (m_X4_copy hg.2.1 hg2.2.1 (Nat.le_of_ble_eq_true rfl) ⟨rfl, ?_⟩)
  refine k_aload_n 0 dX3_copy_11 rfl rfl ?_
  refine k_getfield dX3_copy_12 hc_X3 hg.1.1 hg.1.2 1 (by decide) wF_X3_20 rfl ?_
  refine k_aload_n 1 dX3_copy_15 rfl rfl ?_
  refine k_getfield dX3_copy_16 hc_X3 hg2.1.1 hg2.1.2 1 (by decide) wF_X3_20 rfl ?_
  refine k_invV (As := [_]) dX3_copy_19 mm_X4_copy wL_X3_44 ⟨by decide, by decide⟩ hg.2.2.1.1.1 hg.2.2.1.1.2 rfl rfl (Nat.le_of_ble_eq_true rfl) (Nat.zero_le _) (Nat.zero_le _) (m_X4_copy hg.2.2.1 hg2.2.2.1 (Nat.le_of_ble_eq_true rfl) ⟨rfl, ?_⟩)
  refine k_aload_n 0 dX3_copy_22 rfl rfl ?_
  refine k_getfield dX3_copy_23 hc_X3 hg.1.1 hg.1.2 2 (by decide) wF_X3_23 rfl ?_
  refine k_aload_n 1 dX3_copy_26 rfl rfl ?_
  refine k_getfield dX3_copy_27 hc_X3 hg2.1.1 hg2.1.2 2 (by decide) wF_X3_23 rfl ?_
  refine k_invV (As := [_]) dX3_copy_30 mm_X4_copy wL_X3_44 ⟨by decide, by decide⟩ hg.2.2.2.1.1 hg.2.2.2.1.2 rfl rfl (Nat.le_of_ble_eq_true rfl) (Nat.zero_le _) (Nat.zero_le _) (m_X4_copy hg.2.2.2 hg2.2.2.2 (Nat.le_of_ble_eq_true rfl) ⟨rfl, ?_⟩)
  refine k_aload_n 0 dX3_copy_33 rfl rfl ?_
  refine k_aload_n 1 dX3_copy_34 rfl rfl ?_
  refine k_getfield dX3_copy_35 hc_X3 hg2.1.1 hg2.1.2 3 (by decide) wF_X3_30 rfl ?_
  refine k_putfield dX3_copy_38 hc_X3 hg.1.1 hg.1.2 3 (by decide) wF_X3_30 rfl rfl (t9 := .int) (by decide +kernel) rfl rfl ?_
  refine k_aload_n 0 dX3_copy_41 rfl rfl ?_
  refine k_aload_n 1 dX3_copy_42 rfl rfl ?_
  refine k_getfield dX3_copy_43 hc_X3 hg2.1.1 hg2.1.2 4 (by decide) wF_X3_26 rfl ?_
  refine k_putfield dX3_copy_46 hc_X3 hg.1.1 hg.1.2 4 (by decide) wF_X3_26 rfl rfl (t9 := .int) (by decide +kernel) rfl rfl ?_
  refine k_vret dX3_copy_49 rfl ?_
  exact hQ

set_option maxRecDepth 100000 in
set_option maxHeartbeats 4000000 in
theorem m_X5_thresholdOf {X : kn_X} {σ : kn_S} {τ : kn_T} {z : kn_Z} {c n : Nat} {Q : kn_Q} {b : Nat} {x : Int32} (hs : kn_isSt z b) (hQ : Q (.inl (some (.int (kf_thr σ b x)))) σ τ z) : kn_Ev X MX5_thresholdOf [.ref b, .int x] σ τ z c n Q := by
  refine kn_entry (by decide +kernel) rfl (Nat.le_of_ble_eq_true rfl) ?_
  show kn_Go X MX5_thresholdOf 0 [(0, .ref b), (1, .int x)] [] _ _ _ _ _ _
  refine k_aload_n 0 dX5_thresholdOf_0 rfl rfl ?_
  refine k_getfield dX5_thresholdOf_1 hc_X5 hs.1.1 hs.1.2 2 (by decide) wF_X5_23 rfl ?_
  refine k_iload_n 1 dX5_thresholdOf_4 rfl rfl ?_
  refine k_invV (As := [_]) dX5_thresholdOf_5 mm_X4_at wL_X5_99 ⟨by decide, by decide⟩ hs.2.2.2.1.1.1 hs.2.2.2.1.1.2 rfl rfl (Nat.le_of_ble_eq_true rfl) (Nat.zero_le _) (Nat.zero_le _) (m_X4_at hs.2.2.2.1 (Nat.le_of_ble_eq_true rfl) ⟨rfl, ?_⟩)
  refine k_aload_n 0 dX5_thresholdOf_8 rfl rfl ?_
  refine k_getfield dX5_thresholdOf_9 hc_X5 hs.1.1 hs.1.2 0 (by decide) wF_X5_14 rfl ?_
  refine k_iconst (0) dX5_thresholdOf_12 (by decide) ?_
  refine k_invV (As := [_]) dX5_thresholdOf_13 mm_X4_at wL_X5_99 ⟨by decide, by decide⟩ hs.2.1.1.1 hs.2.1.1.2 rfl rfl (Nat.le_of_ble_eq_true rfl) (Nat.zero_le _) (Nat.zero_le _) (m_X4_at hs.2.1 (Nat.le_of_ble_eq_true rfl) ⟨rfl, ?_⟩)
  refine k_imul dX5_thresholdOf_16 ?_
  refine k_sipush (4096) dX5_thresholdOf_17 (by decide) ?_
  refine k_idiv dX5_thresholdOf_20 (by decide) ?_
  refine k_bipush (50) dX5_thresholdOf_21 (by decide) ?_
  refine k_iadd dX5_thresholdOf_23 ?_
  refine k_iret dX5_thresholdOf_24 rfl (rfl) ?_
  exact hQ

set_option maxRecDepth 100000 in
set_option maxHeartbeats 4000000 in
theorem m_X5_retardOf {X : kn_X} {σ : kn_S} {τ : kn_T} {z : kn_Z} {c n : Nat} {Q : kn_Q} {b : Nat} {x y : Int32} (hs : kn_isSt z b) (hQ : Q (.inl (some (.int (kf_ret σ b x y)))) σ τ z) : kn_Ev X MX5_retardOf [.ref b, .int x, .int y] σ τ z c n Q := by
  refine kn_entry (by decide +kernel) rfl (Nat.le_of_ble_eq_true rfl) ?_
  show kn_Go X MX5_retardOf 0 [(0, .ref b), (1, .int x), (2, .int y)] [] _ _ _ _ _ _
  refine k_aload_n 0 dX5_retardOf_0 rfl rfl ?_
  refine k_getfield dX5_retardOf_1 hc_X5 hs.1.1 hs.1.2 12 (by decide) wF_X5_83 rfl ?_
  refine k_ifeq 19 dX5_retardOf_4 (by decide) (fun h4 => ?_) (fun h4 => ?_)
  · refine k_aload_n 0 dX5_retardOf_19 rfl rfl ?_
    refine k_getfield dX5_retardOf_20 hc_X5 hs.1.1 hs.1.2 1 (by decide) wF_X5_20 rfl ?_
    refine k_iload_n 1 dX5_retardOf_23 rfl rfl ?_
    refine k_invV (As := [_]) dX5_retardOf_24 mm_X4_at wL_X5_99 ⟨by decide, by decide⟩ hs.2.2.1.1.1 hs.2.2.1.1.2 rfl rfl (Nat.le_of_ble_eq_true rfl) (Nat.zero_le _) (Nat.zero_le _) (m_X4_at hs.2.2.1 (Nat.le_of_ble_eq_true rfl) ⟨rfl, ?_⟩)
    refine k_istore_n 3 (lv' := [(3, _), (0, _), (1, _), (2, _)]) dX5_retardOf_27 rfl (by decide) rfl ?_
    refine k_iload_n 3 dX5_retardOf_28 rfl rfl ?_
    refine k_aload_n 0 dX5_retardOf_29 rfl rfl ?_
    refine k_getfield dX5_retardOf_30 hc_X5 hs.1.1 hs.1.2 5 (by decide) wF_X5_32 rfl ?_
    refine k_iload_n 2 dX5_retardOf_33 rfl rfl ?_
    refine k_invV (As := [_]) dX5_retardOf_34 mm_X4_at wL_X5_99 ⟨by decide, by decide⟩ hs.2.2.2.2.2.2.1.1.1 hs.2.2.2.2.2.2.1.1.2 rfl rfl (Nat.le_of_ble_eq_true rfl) (Nat.zero_le _) (Nat.zero_le _) (m_X4_at hs.2.2.2.2.2.2.1 (Nat.le_of_ble_eq_true rfl) ⟨rfl, ?_⟩)
    refine k_iadd dX5_retardOf_37 ?_
    refine k_aload_n 0 dX5_retardOf_38 rfl rfl ?_
    refine k_getfield dX5_retardOf_39 hc_X5 hs.1.1 hs.1.2 0 (by decide) wF_X5_14 rfl ?_
    refine k_iconst (3) dX5_retardOf_42 (by decide) ?_
    refine k_invV (As := [_]) dX5_retardOf_43 mm_X4_at wL_X5_99 ⟨by decide, by decide⟩ hs.2.1.1.1 hs.2.1.1.2 rfl rfl (Nat.le_of_ble_eq_true rfl) (Nat.zero_le _) (Nat.zero_le _) (m_X4_at hs.2.1 (Nat.le_of_ble_eq_true rfl) ⟨rfl, ?_⟩)
    refine k_invS (As := [_, _]) dX5_retardOf_46 mm_J9_min_7cf53 wL_X5_106 ⟨by decide, by decide⟩ rfl rfl (Nat.le_of_ble_eq_true rfl) (Nat.zero_le _) (Nat.zero_le _) (m_J9_min_7cf53 ⟨rfl, ?_⟩)
    refine k_iret dX5_retardOf_49 rfl (rfl) ?_
    dsimp only [kf_ret] at hQ
    rw [if_pos h4] at hQ
    exact hQ
  · refine k_aload_n 0 dX5_retardOf_7 rfl rfl ?_
    refine k_getfield dX5_retardOf_8 hc_X5 hs.1.1 hs.1.2 0 (by decide) wF_X5_14 rfl ?_
    refine k_bipush (7) dX5_retardOf_11 (by decide) ?_
    refine k_invV (As := [_]) dX5_retardOf_13 mm_X4_at wL_X5_99 ⟨by decide, by decide⟩ hs.2.1.1.1 hs.2.1.1.2 rfl rfl (Nat.le_of_ble_eq_true rfl) (Nat.zero_le _) (Nat.zero_le _) (m_X4_at hs.2.1 (Nat.le_of_ble_eq_true rfl) ⟨rfl, ?_⟩)
    refine k_goto 27 dX5_retardOf_16 (by decide) ?_
    refine k_istore_n 3 (lv' := [(3, _), (0, _), (1, _), (2, _)]) dX5_retardOf_27 rfl (by decide) rfl ?_
    refine k_iload_n 3 dX5_retardOf_28 rfl rfl ?_
    refine k_aload_n 0 dX5_retardOf_29 rfl rfl ?_
    refine k_getfield dX5_retardOf_30 hc_X5 hs.1.1 hs.1.2 5 (by decide) wF_X5_32 rfl ?_
    refine k_iload_n 2 dX5_retardOf_33 rfl rfl ?_
    refine k_invV (As := [_]) dX5_retardOf_34 mm_X4_at wL_X5_99 ⟨by decide, by decide⟩ hs.2.2.2.2.2.2.1.1.1 hs.2.2.2.2.2.2.1.1.2 rfl rfl (Nat.le_of_ble_eq_true rfl) (Nat.zero_le _) (Nat.zero_le _) (m_X4_at hs.2.2.2.2.2.2.1 (Nat.le_of_ble_eq_true rfl) ⟨rfl, ?_⟩)
    refine k_iadd dX5_retardOf_37 ?_
    refine k_aload_n 0 dX5_retardOf_38 rfl rfl ?_
    refine k_getfield dX5_retardOf_39 hc_X5 hs.1.1 hs.1.2 0 (by decide) wF_X5_14 rfl ?_
    refine k_iconst (3) dX5_retardOf_42 (by decide) ?_
    refine k_invV (As := [_]) dX5_retardOf_43 mm_X4_at wL_X5_99 ⟨by decide, by decide⟩ hs.2.1.1.1 hs.2.1.1.2 rfl rfl (Nat.le_of_ble_eq_true rfl) (Nat.zero_le _) (Nat.zero_le _) (m_X4_at hs.2.1 (Nat.le_of_ble_eq_true rfl) ⟨rfl, ?_⟩)
    refine k_invS (As := [_, _]) dX5_retardOf_46 mm_J9_min_7cf53 wL_X5_106 ⟨by decide, by decide⟩ rfl rfl (Nat.le_of_ble_eq_true rfl) (Nat.zero_le _) (Nat.zero_le _) (m_J9_min_7cf53 ⟨rfl, ?_⟩)
    refine k_iret dX5_retardOf_49 rfl (rfl) ?_
    dsimp only [kf_ret] at hQ
    rw [if_neg h4] at hQ
    exact hQ

set_option maxRecDepth 100000 in
set_option maxHeartbeats 4000000 in
theorem m_X5_advanceOf {X : kn_X} {σ : kn_S} {τ : kn_T} {z : kn_Z} {c n : Nat} {Q : kn_Q} {b : Nat} {x y w : Int32} (hs : kn_isSt z b) (hQ : Q (.inl (some (.int (kf_adv σ b x y w)))) σ τ z) : kn_Ev X MX5_advanceOf [.ref b, .int x, .int y, .int w] σ τ z c n Q := by
  refine kn_entry (by decide +kernel) rfl (Nat.le_of_ble_eq_true rfl) ?_
  show kn_Go X MX5_advanceOf 0 [(0, .ref b), (1, .int x), (2, .int y), (3, .int w)] [] _ _ _ _ _ _
  refine k_iload_n 2 dX5_advanceOf_0 rfl rfl ?_
  refine k_iload_n 3 dX5_advanceOf_1 rfl rfl ?_
  refine k_invS (As := [_, _]) dX5_advanceOf_2 mm_X0_basicAdvance wL_X5_112 ⟨by decide, by decide⟩ rfl rfl (Nat.le_of_ble_eq_true rfl) (Nat.zero_le _) (Nat.zero_le _) (m_X0_basicAdvance ⟨rfl, ?_⟩)
  refine k_aload_n 0 dX5_advanceOf_5 rfl rfl ?_
  refine k_iload_n 1 dX5_advanceOf_6 rfl rfl ?_
  refine k_iload_n 2 dX5_advanceOf_7 rfl rfl ?_
  refine k_iload_n 3 dX5_advanceOf_8 rfl rfl ?_
  refine k_invS (As := [_, _]) dX5_advanceOf_9 mm_X0_cellOf wL_X5_117 ⟨by decide, by decide⟩ rfl rfl (Nat.le_of_ble_eq_true rfl) (Nat.zero_le _) (Nat.zero_le _) (m_X0_cellOf ⟨rfl, ?_⟩)
  refine k_invV (As := [_, _]) dX5_advanceOf_12 mm_X5_retardOf wL_X5_120 ⟨by decide, by decide⟩ hs.1.1 hs.1.2 rfl rfl (Nat.le_of_ble_eq_true rfl) (Nat.zero_le _) (Nat.zero_le _) (m_X5_retardOf hs ⟨rfl, ?_⟩)
  refine k_isub dX5_advanceOf_15 ?_
  refine k_iret dX5_advanceOf_16 rfl (rfl) ?_
  exact hQ

set_option maxRecDepth 100000 in
set_option maxHeartbeats 4000000 in
theorem m_X5_settingOrCylinders {X : kn_X} {σ : kn_S} {τ : kn_T} {z : kn_Z} {c n : Nat} {Q : kn_Q} {b : Nat} {x : Int32} (hs : kn_isSt z b) (hQ : Q (.inl (some (.int (kf_setOr σ b x)))) σ τ z) : kn_Ev X MX5_settingOrCylinders [.ref b, .int x] σ τ z c n Q := by
  refine kn_entry (by decide +kernel) rfl (Nat.le_of_ble_eq_true rfl) ?_
  show kn_Go X MX5_settingOrCylinders 0 [(0, .ref b), (1, .int x)] [] _ _ _ _ _ _
  refine k_iload_n 1 dX5_settingOrCylinders_0 rfl rfl ?_
  refine k_bipush (8) dX5_settingOrCylinders_1 (by decide) ?_
  refine k_icmpne 13 dX5_settingOrCylinders_3 (by decide) (fun h3 => ?_) (fun h3 => ?_)
  · refine k_aload_n 0 dX5_settingOrCylinders_13 rfl rfl ?_
    refine k_getfield dX5_settingOrCylinders_14 hc_X5 hs.1.1 hs.1.2 0 (by decide) wF_X5_14 rfl ?_
    refine k_iload_n 1 dX5_settingOrCylinders_17 rfl rfl ?_
    refine k_invV (As := [_]) dX5_settingOrCylinders_18 mm_X4_at wL_X5_99 ⟨by decide, by decide⟩ hs.2.1.1.1 hs.2.1.1.2 rfl rfl (Nat.le_of_ble_eq_true rfl) (Nat.zero_le _) (Nat.zero_le _) (m_X4_at hs.2.1 (Nat.le_of_ble_eq_true rfl) ⟨rfl, ?_⟩)
    refine k_iret dX5_settingOrCylinders_21 rfl (rfl) ?_
    dsimp only [kf_setOr] at hQ
    rw [if_neg h3] at hQ
    exact hQ
  · refine k_aload_n 0 dX5_settingOrCylinders_6 rfl rfl ?_
    refine k_getfield dX5_settingOrCylinders_7 hc_X5 hs.1.1 hs.1.2 7 (by decide) wF_X5_61 rfl ?_
    refine k_goto 21 dX5_settingOrCylinders_10 (by decide) ?_
    refine k_iret dX5_settingOrCylinders_21 rfl (rfl) ?_
    dsimp only [kf_setOr] at hQ
    rw [if_pos h3] at hQ
    exact hQ

set_option maxRecDepth 100000 in
set_option maxHeartbeats 4000000 in
theorem m_X5_aboutCylinder {X : kn_X} {σ : kn_S} {τ : kn_T} {z : kn_Z} {c n : Nat} {Q : kn_Q} {b : Nat} {x w : Int32} (hs : kn_isSt z b) (hQ : Q (.inl (some (.int (kf_aboutCyl σ b x w)))) σ τ z) : kn_Ev X MX5_aboutCylinder [.ref b, .int x, .int w] σ τ z c n Q := by
  refine kn_entry (by decide +kernel) rfl (Nat.le_of_ble_eq_true rfl) ?_
  show kn_Go X MX5_aboutCylinder 0 [(0, .ref b), (1, .int x), (2, .int w)] [] _ _ _ _ _ _
  refine k_iload_n 2 dX5_aboutCylinder_0 rfl rfl ?_
  rcases kn_sw3 w with hsw | hsw | hsw | hsw | hsw
  · rw [hsw]
    refine k_tsIn 32 dX5_aboutCylinder_1 (by decide) (by decide) rfl (by decide) ?_
    refine k_aload_n 0 dX5_aboutCylinder_32 rfl rfl ?_
    refine k_getfield dX5_aboutCylinder_33 hc_X5 hs.1.1 hs.1.2 1 (by decide) wF_X5_20 rfl ?_
    refine k_iload_n 1 dX5_aboutCylinder_36 rfl rfl ?_
    refine k_invV (As := [_]) dX5_aboutCylinder_37 mm_X4_at wL_X5_99 ⟨by decide, by decide⟩ hs.2.2.1.1.1 hs.2.2.1.1.2 rfl rfl (Nat.le_of_ble_eq_true rfl) (Nat.zero_le _) (Nat.zero_le _) (m_X4_at hs.2.2.1 (Nat.le_of_ble_eq_true rfl) ⟨rfl, ?_⟩)
    refine k_iret dX5_aboutCylinder_40 rfl (rfl) ?_
    rw [hsw] at hQ
    dsimp only [kf_aboutCyl] at hQ
    rw [if_pos (show (0 : Int32) = 0 from rfl)] at hQ
    exact hQ
  · rw [hsw]
    refine k_tsIn 41 dX5_aboutCylinder_1 (by decide) (by decide) rfl (by decide) ?_
    refine k_aload_n 0 dX5_aboutCylinder_41 rfl rfl ?_
    refine k_getfield dX5_aboutCylinder_42 hc_X5 hs.1.1 hs.1.2 2 (by decide) wF_X5_23 rfl ?_
    refine k_iload_n 1 dX5_aboutCylinder_45 rfl rfl ?_
    refine k_invV (As := [_]) dX5_aboutCylinder_46 mm_X4_at wL_X5_99 ⟨by decide, by decide⟩ hs.2.2.2.1.1.1 hs.2.2.2.1.1.2 rfl rfl (Nat.le_of_ble_eq_true rfl) (Nat.zero_le _) (Nat.zero_le _) (m_X4_at hs.2.2.2.1 (Nat.le_of_ble_eq_true rfl) ⟨rfl, ?_⟩)
    refine k_iret dX5_aboutCylinder_49 rfl (rfl) ?_
    rw [hsw] at hQ
    dsimp only [kf_aboutCyl] at hQ
    rw [if_neg (show ¬ (1 : Int32) = 0 by decide), if_pos (show (1 : Int32) = 1 from rfl)] at hQ
    exact hQ
  · rw [hsw]
    refine k_tsIn 50 dX5_aboutCylinder_1 (by decide) (by decide) rfl (by decide) ?_
    refine k_aload_n 0 dX5_aboutCylinder_50 rfl rfl ?_
    refine k_getfield dX5_aboutCylinder_51 hc_X5 hs.1.1 hs.1.2 3 (by decide) wF_X5_26 rfl ?_
    refine k_iload_n 1 dX5_aboutCylinder_54 rfl rfl ?_
    refine k_invV (As := [_]) dX5_aboutCylinder_55 mm_X4_at wL_X5_99 ⟨by decide, by decide⟩ hs.2.2.2.2.1.1.1 hs.2.2.2.2.1.1.2 rfl rfl (Nat.le_of_ble_eq_true rfl) (Nat.zero_le _) (Nat.zero_le _) (m_X4_at hs.2.2.2.2.1 (Nat.le_of_ble_eq_true rfl) ⟨rfl, ?_⟩)
    refine k_iret dX5_aboutCylinder_58 rfl (rfl) ?_
    rw [hsw] at hQ
    dsimp only [kf_aboutCyl] at hQ
    rw [if_neg (show ¬ (2 : Int32) = 0 by decide), if_neg (show ¬ (2 : Int32) = 1 by decide), if_pos (show (2 : Int32) = 2 from rfl)] at hQ
    exact hQ
  · rw [hsw]
    refine k_tsIn 59 dX5_aboutCylinder_1 (by decide) (by decide) rfl (by decide) ?_
    refine k_aload_n 0 dX5_aboutCylinder_59 rfl rfl ?_
    refine k_iload_n 1 dX5_aboutCylinder_60 rfl rfl ?_
    refine k_invV (As := [_]) dX5_aboutCylinder_61 mm_X5_thresholdOf wL_X5_103 ⟨by decide, by decide⟩ hs.1.1 hs.1.2 rfl rfl (Nat.le_of_ble_eq_true rfl) (Nat.zero_le _) (Nat.zero_le _) (m_X5_thresholdOf hs ⟨rfl, ?_⟩)
    refine k_iret dX5_aboutCylinder_64 rfl (rfl) ?_
    rw [hsw] at hQ
    dsimp only [kf_aboutCyl] at hQ
    rw [if_neg (show ¬ (3 : Int32) = 0 by decide), if_neg (show ¬ (3 : Int32) = 1 by decide), if_neg (show ¬ (3 : Int32) = 2 by decide), if_pos (show (3 : Int32) = 3 from rfl)] at hQ
    exact hQ
  · refine k_tsOut 65 dX5_aboutCylinder_1 hsw.2 (by decide) ?_
    refine k_aload_n 0 dX5_aboutCylinder_65 rfl rfl ?_
    refine k_getfield dX5_aboutCylinder_66 hc_X5 hs.1.1 hs.1.2 4 (by decide) wF_X5_29 rfl ?_
    refine k_iload_n 1 dX5_aboutCylinder_69 rfl rfl ?_
    refine k_invV (As := [_]) dX5_aboutCylinder_70 mm_X4_at wL_X5_99 ⟨by decide, by decide⟩ hs.2.2.2.2.2.1.1.1 hs.2.2.2.2.2.1.1.2 rfl rfl (Nat.le_of_ble_eq_true rfl) (Nat.zero_le _) (Nat.zero_le _) (m_X4_at hs.2.2.2.2.2.1 (Nat.le_of_ble_eq_true rfl) ⟨rfl, ?_⟩)
    refine k_iret dX5_aboutCylinder_73 rfl (rfl) ?_
    dsimp only [kf_aboutCyl] at hQ
    rw [if_neg hsw.1.1, if_neg hsw.1.2.1, if_neg hsw.1.2.2.1, if_neg hsw.1.2.2.2] at hQ
    exact hQ

set_option maxRecDepth 100000 in
set_option maxHeartbeats 4000000 in
theorem m_X5_aboutControl {X : kn_X} {σ : kn_S} {τ : kn_T} {z : kn_Z} {c n : Nat} {Q : kn_Q} {b : Nat} {w : Int32} (hs : kn_isSt z b) (hQ : Q (.inl (some (.int (kf_aboutCtl σ b w)))) σ τ z) : kn_Ev X MX5_aboutControl [.ref b, .int w] σ τ z c n Q := by
  refine kn_entry (by decide +kernel) rfl (Nat.le_of_ble_eq_true rfl) ?_
  show kn_Go X MX5_aboutControl 0 [(0, .ref b), (1, .int w)] [] _ _ _ _ _ _
  refine k_iload_n 1 dX5_aboutControl_0 rfl rfl ?_
  rcases kn_sw3 w with hsw | hsw | hsw | hsw | hsw
  · rw [hsw]
    refine k_tsIn 32 dX5_aboutControl_1 (by decide) (by decide) rfl (by decide) ?_
    refine k_aload_n 0 dX5_aboutControl_32 rfl rfl ?_
    refine k_getfield dX5_aboutControl_33 hc_X5 hs.1.1 hs.1.2 12 (by decide) wF_X5_83 rfl ?_
    refine k_ifeq 43 dX5_aboutControl_36 (by decide) (fun h36 => ?_) (fun h36 => ?_)
    · refine k_iconst (0) dX5_aboutControl_43 (by decide) ?_
      refine k_iret dX5_aboutControl_44 rfl (rfl) ?_
      rw [hsw] at hQ
      dsimp only [kf_aboutCtl] at hQ
      rw [if_pos (show (0 : Int32) = 0 from rfl), if_pos h36] at hQ
      exact hQ
    · refine k_iconst (1) dX5_aboutControl_39 (by decide) ?_
      refine k_goto 44 dX5_aboutControl_40 (by decide) ?_
      refine k_iret dX5_aboutControl_44 rfl (rfl) ?_
      rw [hsw] at hQ
      dsimp only [kf_aboutCtl] at hQ
      rw [if_pos (show (0 : Int32) = 0 from rfl), if_neg h36] at hQ
      exact hQ
  · rw [hsw]
    refine k_tsIn 45 dX5_aboutControl_1 (by decide) (by decide) rfl (by decide) ?_
    refine k_aload_n 0 dX5_aboutControl_45 rfl rfl ?_
    refine k_getfield dX5_aboutControl_46 hc_X5 hs.1.1 hs.1.2 10 (by decide) wF_X5_77 rfl ?_
    refine k_iret dX5_aboutControl_49 rfl (rfl) ?_
    rw [hsw] at hQ
    dsimp only [kf_aboutCtl] at hQ
    rw [if_neg (show ¬ (1 : Int32) = 0 by decide), if_pos (show (1 : Int32) = 1 from rfl)] at hQ
    exact hQ
  · rw [hsw]
    refine k_tsIn 50 dX5_aboutControl_1 (by decide) (by decide) rfl (by decide) ?_
    refine k_aload_n 0 dX5_aboutControl_50 rfl rfl ?_
    refine k_getfield dX5_aboutControl_51 hc_X5 hs.1.1 hs.1.2 11 (by decide) wF_X5_80 rfl ?_
    refine k_iret dX5_aboutControl_54 rfl (rfl) ?_
    rw [hsw] at hQ
    dsimp only [kf_aboutCtl] at hQ
    rw [if_neg (show ¬ (2 : Int32) = 0 by decide), if_neg (show ¬ (2 : Int32) = 1 by decide), if_pos (show (2 : Int32) = 2 from rfl)] at hQ
    exact hQ
  · rw [hsw]
    refine k_tsIn 55 dX5_aboutControl_1 (by decide) (by decide) rfl (by decide) ?_
    refine k_aload_n 0 dX5_aboutControl_55 rfl rfl ?_
    refine k_getfield dX5_aboutControl_56 hc_X5 hs.1.1 hs.1.2 8 (by decide) wF_X5_71 rfl ?_
    refine k_iret dX5_aboutControl_59 rfl (rfl) ?_
    rw [hsw] at hQ
    dsimp only [kf_aboutCtl] at hQ
    rw [if_neg (show ¬ (3 : Int32) = 0 by decide), if_neg (show ¬ (3 : Int32) = 1 by decide), if_neg (show ¬ (3 : Int32) = 2 by decide), if_pos (show (3 : Int32) = 3 from rfl)] at hQ
    exact hQ
  · refine k_tsOut 60 dX5_aboutControl_1 hsw.2 (by decide) ?_
    refine k_aload_n 0 dX5_aboutControl_60 rfl rfl ?_
    refine k_getfield dX5_aboutControl_61 hc_X5 hs.1.1 hs.1.2 9 (by decide) wF_X5_74 rfl ?_
    refine k_iret dX5_aboutControl_64 rfl (rfl) ?_
    dsimp only [kf_aboutCtl] at hQ
    rw [if_neg hsw.1.1, if_neg hsw.1.2.1, if_neg hsw.1.2.2.1, if_neg hsw.1.2.2.2] at hQ
    exact hQ

set_option maxRecDepth 100000 in
set_option maxHeartbeats 4000000 in
theorem m_X5_lowerFast {X : kn_X} {σ : kn_S} {τ : kn_T} {z : kn_Z} {c n : Nat} {Q : kn_Q} {b : Nat} {x : Int32} (hs : kn_isSt z b) (hQ : Q (.inl none) (kf_lower σ b x) τ z) : kn_Ev X MX5_lowerFast [.ref b, .int x] σ τ z c n Q := by
  refine kn_entry (by decide +kernel) rfl (Nat.le_of_ble_eq_true rfl) ?_
  show kn_Go X MX5_lowerFast 0 [(0, .ref b), (1, .int x)] [] _ _ _ _ _ _
  refine k_aload_n 0 dX5_lowerFast_0 rfl rfl ?_
  refine k_getfield dX5_lowerFast_1 hc_X5 hs.1.1 hs.1.2 1 (by decide) wF_X5_20 rfl ?_
  refine k_iload_n 1 dX5_lowerFast_4 rfl rfl ?_
  refine k_invV (As := [_]) dX5_lowerFast_5 mm_X4_at wL_X5_99 ⟨by decide, by decide⟩ hs.2.2.1.1.1 hs.2.2.1.1.2 rfl rfl (Nat.le_of_ble_eq_true rfl) (Nat.zero_le _) (Nat.zero_le _) (m_X4_at hs.2.2.1 (Nat.le_of_ble_eq_true rfl) ⟨rfl, ?_⟩)
  refine k_ifle 20 dX5_lowerFast_8 (by decide) (fun h8 => ?_) (fun h8 => ?_)
  · refine k_vret dX5_lowerFast_20 rfl ?_
    dsimp only [kf_lower] at hQ
    rw [if_pos h8] at hQ
    exact hQ
  · refine k_aload_n 0 dX5_lowerFast_11 rfl rfl ?_
    refine k_getfield dX5_lowerFast_12 hc_X5 hs.1.1 hs.1.2 1 (by decide) wF_X5_20 rfl ?_
    refine k_iload_n 1 dX5_lowerFast_15 rfl rfl ?_
    refine k_iconst (-1) dX5_lowerFast_16 (by decide) ?_
    refine k_invV (As := [_, _]) dX5_lowerFast_17 mm_X4_raise wL_X5_163 ⟨by decide, by decide⟩ hs.2.2.1.1.1 hs.2.2.1.1.2 rfl rfl (Nat.le_of_ble_eq_true rfl) (Nat.zero_le _) (Nat.zero_le _) (m_X4_raise hs.2.2.1 (Nat.le_of_ble_eq_true rfl) ⟨rfl, ?_⟩)
    refine k_vret dX5_lowerFast_20 rfl ?_
    dsimp only [kf_lower] at hQ
    rw [if_neg h8] at hQ
    exact hQ

set_option maxRecDepth 100000 in
set_option maxHeartbeats 4000000 in
theorem m_X5_retardFast {X : kn_X} {σ : kn_S} {τ : kn_T} {z : kn_Z} {c n : Nat} {Q : kn_Q} {b : Nat} {x y e t : Int32} (hs : kn_isSt z b) (hQ : Q (.inl none) (kf_rfast σ b x y e t) τ z) : kn_Ev X MX5_retardFast [.ref b, .int x, .int y, .int e, .int t] σ τ z c n Q := by
  refine kn_entry (by decide +kernel) rfl (Nat.le_of_ble_eq_true rfl) ?_
  show kn_Go X MX5_retardFast 0 [(0, .ref b), (1, .int x), (2, .int y), (3, .int e), (4, .int t)] [] _ _ _ _ _ _
  refine k_aload_n 0 dX5_retardFast_0 rfl rfl ?_
  refine k_getfield dX5_retardFast_1 hc_X5 hs.1.1 hs.1.2 0 (by decide) wF_X5_14 rfl ?_
  refine k_iconst (1) dX5_retardFast_4 (by decide) ?_
  refine k_invV (As := [_]) dX5_retardFast_5 mm_X4_at wL_X5_99 ⟨by decide, by decide⟩ hs.2.1.1.1 hs.2.1.1.2 rfl rfl (Nat.le_of_ble_eq_true rfl) (Nat.zero_le _) (Nat.zero_le _) (m_X4_at hs.2.1 (Nat.le_of_ble_eq_true rfl) ⟨rfl, ?_⟩)
  refine k_istore (lv' := [(5, _), (0, _), (1, _), (2, _), (3, _), (4, _)]) dX5_retardFast_8 (by decide) rfl ?_
  refine k_iload dX5_retardFast_10 rfl ?_
  refine k_ifle 28 dX5_retardFast_12 (by decide) (fun h12 => ?_) (fun h12 => ?_)
  · refine k_iconst (0) dX5_retardFast_28 (by decide) ?_
    refine k_istore (lv' := [(6, _), (5, _), (0, _), (1, _), (2, _), (3, _), (4, _)]) dX5_retardFast_29 (by decide) rfl ?_
    refine k_aload_n 0 dX5_retardFast_31 rfl rfl ?_
    refine k_getfield dX5_retardFast_32 hc_X5 hs.1.1 hs.1.2 1 (by decide) wF_X5_20 rfl ?_
    refine k_iload_n 1 dX5_retardFast_35 rfl rfl ?_
    refine k_invV (As := [_]) dX5_retardFast_36 mm_X4_at wL_X5_99 ⟨by decide, by decide⟩ hs.2.2.1.1.1 hs.2.2.1.1.2 rfl rfl (Nat.le_of_ble_eq_true rfl) (Nat.zero_le _) (Nat.zero_le _) (m_X4_at hs.2.2.1 (Nat.le_of_ble_eq_true rfl) ⟨rfl, ?_⟩)
    refine k_iload dX5_retardFast_39 rfl ?_
    refine k_iadd dX5_retardFast_41 ?_
    refine k_iconst (3) dX5_retardFast_42 (by decide) ?_
    refine k_iload dX5_retardFast_43 rfl ?_
    refine k_imul dX5_retardFast_45 ?_
    refine k_iload dX5_retardFast_46 rfl ?_
    refine k_invS (As := [_, _]) dX5_retardFast_48 mm_J9_min_7cf53 wL_X5_106 ⟨by decide, by decide⟩ rfl rfl (Nat.le_of_ble_eq_true rfl) (Nat.zero_le _) (Nat.zero_le _) (m_J9_min_7cf53 ⟨rfl, ?_⟩)
    refine k_iadd dX5_retardFast_51 ?_
    refine k_istore (lv' := [(7, _), (6, _), (5, _), (0, _), (1, _), (2, _), (3, _), (4, _)]) dX5_retardFast_52 (by decide) rfl ?_
    refine k_aload_n 0 dX5_retardFast_54 rfl rfl ?_
    refine k_getfield dX5_retardFast_55 hc_X5 hs.1.1 hs.1.2 0 (by decide) wF_X5_14 rfl ?_
    refine k_iconst (3) dX5_retardFast_58 (by decide) ?_
    refine k_invV (As := [_]) dX5_retardFast_59 mm_X4_at wL_X5_99 ⟨by decide, by decide⟩ hs.2.1.1.1 hs.2.1.1.2 rfl rfl (Nat.le_of_ble_eq_true rfl) (Nat.zero_le _) (Nat.zero_le _) (m_X4_at hs.2.1 (Nat.le_of_ble_eq_true rfl) ⟨rfl, ?_⟩)
    refine k_aload_n 0 dX5_retardFast_62 rfl rfl ?_
    refine k_getfield dX5_retardFast_63 hc_X5 hs.1.1 hs.1.2 5 (by decide) wF_X5_32 rfl ?_
    refine k_iload_n 2 dX5_retardFast_66 rfl rfl ?_
    refine k_invV (As := [_]) dX5_retardFast_67 mm_X4_at wL_X5_99 ⟨by decide, by decide⟩ hs.2.2.2.2.2.2.1.1.1 hs.2.2.2.2.2.2.1.1.2 rfl rfl (Nat.le_of_ble_eq_true rfl) (Nat.zero_le _) (Nat.zero_le _) (m_X4_at hs.2.2.2.2.2.2.1 (Nat.le_of_ble_eq_true rfl) ⟨rfl, ?_⟩)
    refine k_isub dX5_retardFast_70 ?_
    refine k_istore (lv' := [(8, _), (7, _), (6, _), (5, _), (0, _), (1, _), (2, _), (3, _), (4, _)]) dX5_retardFast_71 (by decide) rfl ?_
    refine k_aload_n 0 dX5_retardFast_73 rfl rfl ?_
    refine k_getfield dX5_retardFast_74 hc_X5 hs.1.1 hs.1.2 1 (by decide) wF_X5_20 rfl ?_
    refine k_iload_n 1 dX5_retardFast_77 rfl rfl ?_
    refine k_aload_n 0 dX5_retardFast_78 rfl rfl ?_
    refine k_getfield dX5_retardFast_79 hc_X5 hs.1.1 hs.1.2 1 (by decide) wF_X5_20 rfl ?_
    refine k_iload_n 1 dX5_retardFast_82 rfl rfl ?_
    refine k_invV (As := [_]) dX5_retardFast_83 mm_X4_at wL_X5_99 ⟨by decide, by decide⟩ hs.2.2.1.1.1 hs.2.2.1.1.2 rfl rfl (Nat.le_of_ble_eq_true rfl) (Nat.zero_le _) (Nat.zero_le _) (m_X4_at hs.2.2.1 (Nat.le_of_ble_eq_true rfl) ⟨rfl, ?_⟩)
    refine k_iload dX5_retardFast_86 rfl ?_
    refine k_iload dX5_retardFast_88 rfl ?_
    refine k_invS (As := [_, _]) dX5_retardFast_90 mm_J9_min_7cf53 wL_X5_106 ⟨by decide, by decide⟩ rfl rfl (Nat.le_of_ble_eq_true rfl) (Nat.zero_le _) (Nat.zero_le _) (m_J9_min_7cf53 ⟨rfl, ?_⟩)
    refine k_invS (As := [_, _]) dX5_retardFast_93 mm_J9_max_7cf53 wL_X5_123 ⟨by decide, by decide⟩ rfl rfl (Nat.le_of_ble_eq_true rfl) (Nat.zero_le _) (Nat.zero_le _) (m_J9_max_7cf53 ⟨rfl, ?_⟩)
    refine k_invV (As := [_, _]) dX5_retardFast_96 mm_X4_put wL_X5_46 ⟨by decide, by decide⟩ hs.2.2.1.1.1 hs.2.2.1.1.2 rfl rfl (Nat.le_of_ble_eq_true rfl) (Nat.zero_le _) (Nat.zero_le _) (m_X4_put hs.2.2.1 (Nat.le_of_ble_eq_true rfl) ⟨rfl, ?_⟩)
    refine k_vret dX5_retardFast_99 rfl ?_
    dsimp only [kf_rfast] at hQ
    rw [if_pos h12] at hQ
    exact hQ
  · refine k_iload dX5_retardFast_15 rfl ?_
    refine k_iload_n 3 dX5_retardFast_17 rfl rfl ?_
    refine k_iload dX5_retardFast_18 rfl ?_
    refine k_isub dX5_retardFast_20 ?_
    refine k_imul dX5_retardFast_21 ?_
    refine k_iload dX5_retardFast_22 rfl ?_
    refine k_idiv dX5_retardFast_24 (fun h9 => h12 (by rw [h9]; decide)) ?_
    refine k_goto 29 dX5_retardFast_25 (by decide) ?_
    refine k_istore (lv' := [(6, _), (5, _), (0, _), (1, _), (2, _), (3, _), (4, _)]) dX5_retardFast_29 (by decide) rfl ?_
    refine k_aload_n 0 dX5_retardFast_31 rfl rfl ?_
    refine k_getfield dX5_retardFast_32 hc_X5 hs.1.1 hs.1.2 1 (by decide) wF_X5_20 rfl ?_
    refine k_iload_n 1 dX5_retardFast_35 rfl rfl ?_
    refine k_invV (As := [_]) dX5_retardFast_36 mm_X4_at wL_X5_99 ⟨by decide, by decide⟩ hs.2.2.1.1.1 hs.2.2.1.1.2 rfl rfl (Nat.le_of_ble_eq_true rfl) (Nat.zero_le _) (Nat.zero_le _) (m_X4_at hs.2.2.1 (Nat.le_of_ble_eq_true rfl) ⟨rfl, ?_⟩)
    refine k_iload dX5_retardFast_39 rfl ?_
    refine k_iadd dX5_retardFast_41 ?_
    refine k_iconst (3) dX5_retardFast_42 (by decide) ?_
    refine k_iload dX5_retardFast_43 rfl ?_
    refine k_imul dX5_retardFast_45 ?_
    refine k_iload dX5_retardFast_46 rfl ?_
    refine k_invS (As := [_, _]) dX5_retardFast_48 mm_J9_min_7cf53 wL_X5_106 ⟨by decide, by decide⟩ rfl rfl (Nat.le_of_ble_eq_true rfl) (Nat.zero_le _) (Nat.zero_le _) (m_J9_min_7cf53 ⟨rfl, ?_⟩)
    refine k_iadd dX5_retardFast_51 ?_
    refine k_istore (lv' := [(7, _), (6, _), (5, _), (0, _), (1, _), (2, _), (3, _), (4, _)]) dX5_retardFast_52 (by decide) rfl ?_
    refine k_aload_n 0 dX5_retardFast_54 rfl rfl ?_
    refine k_getfield dX5_retardFast_55 hc_X5 hs.1.1 hs.1.2 0 (by decide) wF_X5_14 rfl ?_
    refine k_iconst (3) dX5_retardFast_58 (by decide) ?_
    refine k_invV (As := [_]) dX5_retardFast_59 mm_X4_at wL_X5_99 ⟨by decide, by decide⟩ hs.2.1.1.1 hs.2.1.1.2 rfl rfl (Nat.le_of_ble_eq_true rfl) (Nat.zero_le _) (Nat.zero_le _) (m_X4_at hs.2.1 (Nat.le_of_ble_eq_true rfl) ⟨rfl, ?_⟩)
    refine k_aload_n 0 dX5_retardFast_62 rfl rfl ?_
    refine k_getfield dX5_retardFast_63 hc_X5 hs.1.1 hs.1.2 5 (by decide) wF_X5_32 rfl ?_
    refine k_iload_n 2 dX5_retardFast_66 rfl rfl ?_
    refine k_invV (As := [_]) dX5_retardFast_67 mm_X4_at wL_X5_99 ⟨by decide, by decide⟩ hs.2.2.2.2.2.2.1.1.1 hs.2.2.2.2.2.2.1.1.2 rfl rfl (Nat.le_of_ble_eq_true rfl) (Nat.zero_le _) (Nat.zero_le _) (m_X4_at hs.2.2.2.2.2.2.1 (Nat.le_of_ble_eq_true rfl) ⟨rfl, ?_⟩)
    refine k_isub dX5_retardFast_70 ?_
    refine k_istore (lv' := [(8, _), (7, _), (6, _), (5, _), (0, _), (1, _), (2, _), (3, _), (4, _)]) dX5_retardFast_71 (by decide) rfl ?_
    refine k_aload_n 0 dX5_retardFast_73 rfl rfl ?_
    refine k_getfield dX5_retardFast_74 hc_X5 hs.1.1 hs.1.2 1 (by decide) wF_X5_20 rfl ?_
    refine k_iload_n 1 dX5_retardFast_77 rfl rfl ?_
    refine k_aload_n 0 dX5_retardFast_78 rfl rfl ?_
    refine k_getfield dX5_retardFast_79 hc_X5 hs.1.1 hs.1.2 1 (by decide) wF_X5_20 rfl ?_
    refine k_iload_n 1 dX5_retardFast_82 rfl rfl ?_
    refine k_invV (As := [_]) dX5_retardFast_83 mm_X4_at wL_X5_99 ⟨by decide, by decide⟩ hs.2.2.1.1.1 hs.2.2.1.1.2 rfl rfl (Nat.le_of_ble_eq_true rfl) (Nat.zero_le _) (Nat.zero_le _) (m_X4_at hs.2.2.1 (Nat.le_of_ble_eq_true rfl) ⟨rfl, ?_⟩)
    refine k_iload dX5_retardFast_86 rfl ?_
    refine k_iload dX5_retardFast_88 rfl ?_
    refine k_invS (As := [_, _]) dX5_retardFast_90 mm_J9_min_7cf53 wL_X5_106 ⟨by decide, by decide⟩ rfl rfl (Nat.le_of_ble_eq_true rfl) (Nat.zero_le _) (Nat.zero_le _) (m_J9_min_7cf53 ⟨rfl, ?_⟩)
    refine k_invS (As := [_, _]) dX5_retardFast_93 mm_J9_max_7cf53 wL_X5_123 ⟨by decide, by decide⟩ rfl rfl (Nat.le_of_ble_eq_true rfl) (Nat.zero_le _) (Nat.zero_le _) (m_J9_max_7cf53 ⟨rfl, ?_⟩)
    refine k_invV (As := [_, _]) dX5_retardFast_96 mm_X4_put wL_X5_46 ⟨by decide, by decide⟩ hs.2.2.1.1.1 hs.2.2.1.1.2 rfl rfl (Nat.le_of_ble_eq_true rfl) (Nat.zero_le _) (Nat.zero_le _) (m_X4_put hs.2.2.1 (Nat.le_of_ble_eq_true rfl) ⟨rfl, ?_⟩)
    refine k_vret dX5_retardFast_99 rfl ?_
    dsimp only [kf_rfast] at hQ
    rw [if_neg h12] at hQ
    exact hQ

set_option maxRecDepth 100000 in
set_option maxHeartbeats 4000000 in
theorem m_X5_listen {X : kn_X} {σ : kn_S} {τ : kn_T} {z : kn_Z} {c n : Nat} {Q : kn_Q} {b : Nat} {x y e : Int32} (hs : kn_isSt z b) (hQ : Q (.inl (some (.int (kf_lo σ b x e)))) (kf_listen σ b x y e) τ z) : kn_Ev X MX5_listen [.ref b, .int x, .int y, .int e] σ τ z c n Q := by
  refine kn_entry (by decide +kernel) rfl (Nat.le_of_ble_eq_true rfl) ?_
  show kn_Go X MX5_listen 0 [(0, .ref b), (1, .int x), (2, .int y), (3, .int e)] [] _ _ _ _ _ _
  refine k_aload_n 0 dX5_listen_0 rfl rfl ?_
  refine k_iload_n 1 dX5_listen_1 rfl rfl ?_
  refine k_invV (As := [_]) dX5_listen_2 mm_X5_thresholdOf wL_X5_103 ⟨by decide, by decide⟩ hs.1.1 hs.1.2 rfl rfl (Nat.le_of_ble_eq_true rfl) (Nat.zero_le _) (Nat.zero_le _) (m_X5_thresholdOf hs ⟨rfl, ?_⟩)
  refine k_istore (lv' := [(4, _), (0, _), (1, _), (2, _), (3, _)]) dX5_listen_5 (by decide) rfl ?_
  refine k_iload_n 3 dX5_listen_7 rfl rfl ?_
  refine k_iload dX5_listen_8 rfl ?_
  refine k_icmple 55 dX5_listen_10 (by decide) (fun h10 => ?_) (fun h10 => ?_)
  · refine k_aload_n 0 dX5_listen_55 rfl rfl ?_
    refine k_getfield dX5_listen_56 hc_X5 hs.1.1 hs.1.2 2 (by decide) wF_X5_23 rfl ?_
    refine k_iload_n 1 dX5_listen_59 rfl rfl ?_
    refine k_sipush (256) dX5_listen_60 (by decide) ?_
    refine k_iload_n 3 dX5_listen_63 rfl rfl ?_
    refine k_imul dX5_listen_64 ?_
    refine k_aload_n 0 dX5_listen_65 rfl rfl ?_
    refine k_getfield dX5_listen_66 hc_X5 hs.1.1 hs.1.2 2 (by decide) wF_X5_23 rfl ?_
    refine k_iload_n 1 dX5_listen_69 rfl rfl ?_
    refine k_invV (As := [_]) dX5_listen_70 mm_X4_at wL_X5_99 ⟨by decide, by decide⟩ hs.2.2.2.1.1.1 hs.2.2.2.1.1.2 rfl rfl (Nat.le_of_ble_eq_true rfl) (Nat.zero_le _) (Nat.zero_le _) (m_X4_at hs.2.2.2.1 (Nat.le_of_ble_eq_true rfl) ⟨rfl, ?_⟩)
    refine k_isub dX5_listen_73 ?_
    refine k_bipush (16) dX5_listen_74 (by decide) ?_
    refine k_invS (As := [_, _]) dX5_listen_76 mm_J9_floorDiv_7cf53 wL_X5_166 ⟨by decide, by decide⟩ rfl rfl (Nat.le_of_ble_eq_true rfl) (Nat.zero_le _) (Nat.zero_le _) (m_J9_floorDiv_7cf53 (by decide) ⟨rfl, ?_⟩)
    refine k_invV (As := [_, _]) dX5_listen_79 mm_X4_raise wL_X5_163 ⟨by decide, by decide⟩ hs.2.2.2.1.1.1 hs.2.2.2.1.1.2 rfl rfl (Nat.le_of_ble_eq_true rfl) (Nat.zero_le _) (Nat.zero_le _) (m_X4_raise hs.2.2.2.1 (Nat.le_of_ble_eq_true rfl) ⟨rfl, ?_⟩)
    refine k_aload_n 0 dX5_listen_82 rfl rfl ?_
    refine k_getfield dX5_listen_83 hc_X5 hs.1.1 hs.1.2 3 (by decide) wF_X5_26 rfl ?_
    refine k_iload_n 1 dX5_listen_86 rfl rfl ?_
    refine k_iconst (1) dX5_listen_87 (by decide) ?_
    refine k_invV (As := [_, _]) dX5_listen_88 mm_X4_raise wL_X5_163 ⟨by decide, by decide⟩ hs.2.2.2.2.1.1.1 hs.2.2.2.2.1.1.2 rfl rfl (Nat.le_of_ble_eq_true rfl) (Nat.zero_le _) (Nat.zero_le _) (m_X4_raise hs.2.2.2.2.1 (Nat.le_of_ble_eq_true rfl) ⟨rfl, ?_⟩)
    refine k_aload_n 0 dX5_listen_91 rfl rfl ?_
    refine k_getfield dX5_listen_92 hc_X5 hs.1.1 hs.1.2 3 (by decide) wF_X5_26 rfl ?_
    refine k_iload_n 1 dX5_listen_95 rfl rfl ?_
    refine k_invV (As := [_]) dX5_listen_96 mm_X4_at wL_X5_99 ⟨by decide, by decide⟩ hs.2.2.2.2.1.1.1 hs.2.2.2.2.1.1.2 rfl rfl (Nat.le_of_ble_eq_true rfl) (Nat.zero_le _) (Nat.zero_le _) (m_X4_at hs.2.2.2.2.1 (Nat.le_of_ble_eq_true rfl) ⟨rfl, ?_⟩)
    refine k_aload_n 0 dX5_listen_99 rfl rfl ?_
    refine k_getfield dX5_listen_100 hc_X5 hs.1.1 hs.1.2 0 (by decide) wF_X5_14 rfl ?_
    refine k_iconst (2) dX5_listen_103 (by decide) ?_
    refine k_invV (As := [_]) dX5_listen_104 mm_X4_at wL_X5_99 ⟨by decide, by decide⟩ hs.2.1.1.1 hs.2.1.1.2 rfl rfl (Nat.le_of_ble_eq_true rfl) (Nat.zero_le _) (Nat.zero_le _) (m_X4_at hs.2.1 (Nat.le_of_ble_eq_true rfl) ⟨rfl, ?_⟩)
    refine k_icmplt 124 dX5_listen_107 (by decide) (fun h107 => ?_) (fun h107 => ?_)
    · refine k_iconst (0) dX5_listen_124 (by decide) ?_
      refine k_iret dX5_listen_125 rfl (rfl) ?_
      dsimp only [kf_lo, kf_listen] at hQ
      rw [if_pos h10, if_pos h10] at hQ
      dsimp only [kf_listenQ] at hQ
      rw [if_pos h107] at hQ
      exact hQ
    · refine k_aload_n 0 dX5_listen_110 rfl rfl ?_
      refine k_getfield dX5_listen_111 hc_X5 hs.1.1 hs.1.2 3 (by decide) wF_X5_26 rfl ?_
      refine k_iload_n 1 dX5_listen_114 rfl rfl ?_
      refine k_iconst (0) dX5_listen_115 (by decide) ?_
      refine k_invV (As := [_, _]) dX5_listen_116 mm_X4_put wL_X5_46 ⟨by decide, by decide⟩ hs.2.2.2.2.1.1.1 hs.2.2.2.2.1.1.2 rfl rfl (Nat.le_of_ble_eq_true rfl) (Nat.zero_le _) (Nat.zero_le _) (m_X4_put hs.2.2.2.2.1 (Nat.le_of_ble_eq_true rfl) ⟨rfl, ?_⟩)
      refine k_aload_n 0 dX5_listen_119 rfl rfl ?_
      refine k_iload_n 1 dX5_listen_120 rfl rfl ?_
      refine k_invV (As := [_]) dX5_listen_121 mm_X5_lowerFast wL_X5_169 ⟨by decide, by decide⟩ hs.1.1 hs.1.2 rfl rfl (Nat.le_of_ble_eq_true rfl) (Nat.zero_le _) (Nat.zero_le _) (m_X5_lowerFast hs ⟨rfl, ?_⟩)
      refine k_iconst (0) dX5_listen_124 (by decide) ?_
      refine k_iret dX5_listen_125 rfl (rfl) ?_
      dsimp only [kf_lo, kf_listen] at hQ
      rw [if_pos h10, if_pos h10] at hQ
      dsimp only [kf_listenQ] at hQ
      rw [if_neg h107] at hQ
      exact hQ
  · refine k_aload_n 0 dX5_listen_13 rfl rfl ?_
    refine k_iload_n 1 dX5_listen_14 rfl rfl ?_
    refine k_iload_n 2 dX5_listen_15 rfl rfl ?_
    refine k_iload_n 3 dX5_listen_16 rfl rfl ?_
    refine k_iload dX5_listen_17 rfl ?_
    refine k_invV (As := [_, _, _, _]) dX5_listen_19 mm_X5_retardFast wL_X5_159 ⟨by decide, by decide⟩ hs.1.1 hs.1.2 rfl rfl (Nat.le_of_ble_eq_true rfl) (Nat.zero_le _) (Nat.zero_le _) (m_X5_retardFast hs ⟨rfl, ?_⟩)
    refine k_aload_n 0 dX5_listen_22 rfl rfl ?_
    refine k_getfield dX5_listen_23 hc_X5 hs.1.1 hs.1.2 3 (by decide) wF_X5_26 rfl ?_
    refine k_iload_n 1 dX5_listen_26 rfl rfl ?_
    refine k_iconst (0) dX5_listen_27 (by decide) ?_
    refine k_invV (As := [_, _]) dX5_listen_28 mm_X4_put wL_X5_46 ⟨by decide, by decide⟩ hs.2.2.2.2.1.1.1 hs.2.2.2.2.1.1.2 rfl rfl (Nat.le_of_ble_eq_true rfl) (Nat.zero_le _) (Nat.zero_le _) (m_X4_put hs.2.2.2.2.1 (Nat.le_of_ble_eq_true rfl) ⟨rfl, ?_⟩)
    refine k_aload_n 0 dX5_listen_31 rfl rfl ?_
    refine k_getfield dX5_listen_32 hc_X5 hs.1.1 hs.1.2 4 (by decide) wF_X5_29 rfl ?_
    refine k_iload_n 1 dX5_listen_35 rfl rfl ?_
    refine k_iconst (1) dX5_listen_36 (by decide) ?_
    refine k_invV (As := [_, _]) dX5_listen_37 mm_X4_raise wL_X5_163 ⟨by decide, by decide⟩ hs.2.2.2.2.2.1.1.1 hs.2.2.2.2.2.1.1.2 rfl rfl (Nat.le_of_ble_eq_true rfl) (Nat.zero_le _) (Nat.zero_le _) (m_X4_raise hs.2.2.2.2.2.1 (Nat.le_of_ble_eq_true rfl) ⟨rfl, ?_⟩)
    refine k_aload_n 0 dX5_listen_40 rfl rfl ?_
    refine k_getfield dX5_listen_41 hc_X5 hs.1.1 hs.1.2 6 (by decide) wF_X5_38 rfl ?_
    refine k_iconst (0) dX5_listen_44 (by decide) ?_
    refine k_iload_n 1 dX5_listen_45 rfl rfl ?_
    refine k_aload_n 0 dX5_listen_46 rfl rfl ?_
    refine k_getfield dX5_listen_47 hc_X5 hs.1.1 hs.1.2 13 (by decide) wF_X5_86 rfl ?_
    refine k_invV (As := [_, _, _]) dX5_listen_50 mm_X3_note wL_X5_155 ⟨by decide, by decide⟩ hs.2.2.2.2.2.2.2.1.1 hs.2.2.2.2.2.2.2.1.2 rfl rfl (Nat.le_of_ble_eq_true rfl) (Nat.zero_le _) (Nat.zero_le _) (m_X3_note hs.2.2.2.2.2.2.2 ⟨rfl, ?_⟩)
    refine k_iconst (1) dX5_listen_53 (by decide) ?_
    refine k_iret dX5_listen_54 rfl (rfl) ?_
    dsimp only [kf_lo, kf_listen] at hQ
    rw [if_neg h10, if_neg h10] at hQ
    exact hQ

set_option maxRecDepth 100000 in
set_option maxHeartbeats 4000000 in
theorem m_X5_watchSensor {X : kn_X} {σ : kn_S} {τ : kn_T} {z : kn_Z} {c n : Nat} {Q : kn_Q} {b : Nat} {e : Int32} (hs : kn_isSt z b) (hQ : Q (.inl none) (kf_watch σ b e) τ z) : kn_Ev X MX5_watchSensor [.ref b, .int e] σ τ z c n Q := by
  refine kn_entry (by decide +kernel) rfl (Nat.le_of_ble_eq_true rfl) ?_
  show kn_Go X MX5_watchSensor 0 [(0, .ref b), (1, .int e)] [] _ _ _ _ _ _
  have cut92 : ∀ (s9 : kn_S) (w9 : Int32), Q (.inl none) (kf_w3 s9 b) τ z → kn_Go X MX5_watchSensor 92 [(2, .int w9), (0, .ref b), (1, .int e)] [] s9 τ z c n Q := by
    intro s9 w9 hQ
    refine k_aload_n 0 dX5_watchSensor_92 rfl rfl ?_
    refine k_getfield dX5_watchSensor_93 hc_X5 hs.1.1 hs.1.2 12 (by decide) wF_X5_83 rfl ?_
    refine k_ifeq 126 dX5_watchSensor_96 (by decide) (fun h96 => ?_) (fun h96 => ?_)
    · refine k_vret dX5_watchSensor_126 rfl ?_
      dsimp only [kf_w3] at hQ
      rw [if_pos h96] at hQ
      exact hQ
    · refine k_aload_n 0 dX5_watchSensor_99 rfl rfl ?_
      refine k_getfield dX5_watchSensor_100 hc_X5 hs.1.1 hs.1.2 11 (by decide) wF_X5_80 rfl ?_
      refine k_bipush (50) dX5_watchSensor_103 (by decide) ?_
      refine k_icmplt 126 dX5_watchSensor_105 (by decide) (fun h105 => ?_) (fun h105 => ?_)
      · refine k_vret dX5_watchSensor_126 rfl ?_
        dsimp only [kf_w3] at hQ
        rw [if_neg h96, if_pos h105] at hQ
        exact hQ
      · refine k_aload_n 0 dX5_watchSensor_108 rfl rfl ?_
        refine k_iconst (0) dX5_watchSensor_109 (by decide) ?_
        refine k_putfield dX5_watchSensor_110 hc_X5 hs.1.1 hs.1.2 12 (by decide) wF_X5_83 rfl rfl (t9 := .boolean) (by decide +kernel) (rfl) (rfl) ?_
        refine k_aload_n 0 dX5_watchSensor_113 rfl rfl ?_
        refine k_getfield dX5_watchSensor_114 hc_X5 hs.1.1 hs.1.2 6 (by decide) wF_X5_38 rfl ?_
        refine k_iconst (2) dX5_watchSensor_117 (by decide) ?_
        refine k_iconst (0) dX5_watchSensor_118 (by decide) ?_
        refine k_aload_n 0 dX5_watchSensor_119 rfl rfl ?_
        refine k_getfield dX5_watchSensor_120 hc_X5 hs.1.1 hs.1.2 13 (by decide) wF_X5_86 rfl ?_
        refine k_invV (As := [_, _, _]) dX5_watchSensor_123 mm_X3_note wL_X5_155 ⟨by decide, by decide⟩ hs.2.2.2.2.2.2.2.1.1 hs.2.2.2.2.2.2.2.1.2 rfl rfl (Nat.le_of_ble_eq_true rfl) (Nat.zero_le _) (Nat.zero_le _) (m_X3_note hs.2.2.2.2.2.2.2 ⟨rfl, ?_⟩)
        refine k_vret dX5_watchSensor_126 rfl ?_
        dsimp only [kf_w3] at hQ
        rw [if_neg h96, if_neg h105] at hQ
        exact hQ
  have cut55 : ∀ (s9 : kn_S) (w9 : Int32), Q (.inl none) (kf_w2 s9 b) τ z → kn_Go X MX5_watchSensor 55 [(2, .int w9), (0, .ref b), (1, .int e)] [] s9 τ z c n Q := by
    intro s9 w9 hQ
    refine k_aload_n 0 dX5_watchSensor_55 rfl rfl ?_
    refine k_getfield dX5_watchSensor_56 hc_X5 hs.1.1 hs.1.2 12 (by decide) wF_X5_83 rfl ?_
    refine k_ifne 92 dX5_watchSensor_59 (by decide) (fun h59 => ?_) (fun h59 => ?_)
    · dsimp only [kf_w2] at hQ
      rw [if_neg h59] at hQ
      exact cut92 _ _ hQ
    · refine k_aload_n 0 dX5_watchSensor_62 rfl rfl ?_
      refine k_getfield dX5_watchSensor_63 hc_X5 hs.1.1 hs.1.2 10 (by decide) wF_X5_77 rfl ?_
      refine k_bipush (20) dX5_watchSensor_66 (by decide) ?_
      refine k_icmplt 92 dX5_watchSensor_68 (by decide) (fun h68 => ?_) (fun h68 => ?_)
      · dsimp only [kf_w2] at hQ
        rw [if_pos h59, if_pos h68] at hQ
        exact cut92 _ _ hQ
      · refine k_aload_n 0 dX5_watchSensor_71 rfl rfl ?_
        refine k_iconst (1) dX5_watchSensor_72 (by decide) ?_
        refine k_putfield dX5_watchSensor_73 hc_X5 hs.1.1 hs.1.2 12 (by decide) wF_X5_83 rfl rfl (t9 := .boolean) (by decide +kernel) (rfl) (rfl) ?_
        refine k_aload_n 0 dX5_watchSensor_76 rfl rfl ?_
        refine k_getfield dX5_watchSensor_77 hc_X5 hs.1.1 hs.1.2 6 (by decide) wF_X5_38 rfl ?_
        refine k_iconst (1) dX5_watchSensor_80 (by decide) ?_
        refine k_iconst (0) dX5_watchSensor_81 (by decide) ?_
        refine k_aload_n 0 dX5_watchSensor_82 rfl rfl ?_
        refine k_getfield dX5_watchSensor_83 hc_X5 hs.1.1 hs.1.2 13 (by decide) wF_X5_86 rfl ?_
        refine k_invV (As := [_, _, _]) dX5_watchSensor_86 mm_X3_note wL_X5_155 ⟨by decide, by decide⟩ hs.2.2.2.2.2.2.2.1.1 hs.2.2.2.2.2.2.2.1.2 rfl rfl (Nat.le_of_ble_eq_true rfl) (Nat.zero_le _) (Nat.zero_le _) (m_X3_note hs.2.2.2.2.2.2.2 ⟨rfl, ?_⟩)
        refine k_goto 126 dX5_watchSensor_89 (by decide) ?_
        refine k_vret dX5_watchSensor_126 rfl ?_
        dsimp only [kf_w2] at hQ
        rw [if_pos h59, if_neg h68] at hQ
        exact hQ
  refine k_iload_n 1 dX5_watchSensor_0 rfl rfl ?_
  refine k_aload_n 0 dX5_watchSensor_1 rfl rfl ?_
  refine k_getfield dX5_watchSensor_2 hc_X5 hs.1.1 hs.1.2 0 (by decide) wF_X5_14 rfl ?_
  refine k_bipush (6) dX5_watchSensor_5 (by decide) ?_
  refine k_invV (As := [_]) dX5_watchSensor_7 mm_X4_at wL_X5_99 ⟨by decide, by decide⟩ hs.2.1.1.1 hs.2.1.1.2 rfl rfl (Nat.le_of_ble_eq_true rfl) (Nat.zero_le _) (Nat.zero_le _) (m_X4_at hs.2.1 (Nat.le_of_ble_eq_true rfl) ⟨rfl, ?_⟩)
  refine k_icmpge 17 dX5_watchSensor_10 (by decide) (fun h10 => ?_) (fun h10 => ?_)
  · refine k_iconst (0) dX5_watchSensor_17 (by decide) ?_
    refine k_istore_n 2 (lv' := [(2, _), (0, _), (1, _)]) dX5_watchSensor_18 rfl (by decide) rfl ?_
    refine k_aload_n 0 dX5_watchSensor_19 rfl rfl ?_
    refine k_iload_n 2 dX5_watchSensor_20 rfl rfl ?_
    refine k_ifeq 33 dX5_watchSensor_21 (by decide) (fun h21 => ?_) (fun h21 => ?_)
    · refine k_iconst (0) dX5_watchSensor_33 (by decide) ?_
      refine k_putfield dX5_watchSensor_34 hc_X5 hs.1.1 hs.1.2 10 (by decide) wF_X5_77 rfl rfl (t9 := .int) (by decide +kernel) rfl rfl ?_
      refine k_aload_n 0 dX5_watchSensor_37 rfl rfl ?_
      refine k_iload_n 2 dX5_watchSensor_38 rfl rfl ?_
      refine k_ifeq 46 dX5_watchSensor_39 (by decide) (fun h39 => ?_) (fun h39 => ?_)
      · refine k_aload_n 0 dX5_watchSensor_46 rfl rfl ?_
        refine k_getfield dX5_watchSensor_47 hc_X5 hs.1.1 hs.1.2 11 (by decide) wF_X5_80 rfl ?_
        refine k_iconst (1) dX5_watchSensor_50 (by decide) ?_
        refine k_iadd dX5_watchSensor_51 ?_
        refine k_putfield dX5_watchSensor_52 hc_X5 hs.1.1 hs.1.2 11 (by decide) wF_X5_80 rfl rfl (t9 := .int) (by decide +kernel) rfl rfl ?_
        dsimp only [kf_watch, kf_w1] at hQ
        rw [if_pos h10] at hQ
        exact cut55 _ _ hQ
      · exact absurd rfl h39
    · exact absurd rfl h21
  · refine k_iconst (1) dX5_watchSensor_13 (by decide) ?_
    refine k_goto 18 dX5_watchSensor_14 (by decide) ?_
    refine k_istore_n 2 (lv' := [(2, _), (0, _), (1, _)]) dX5_watchSensor_18 rfl (by decide) rfl ?_
    refine k_aload_n 0 dX5_watchSensor_19 rfl rfl ?_
    refine k_iload_n 2 dX5_watchSensor_20 rfl rfl ?_
    refine k_ifeq 33 dX5_watchSensor_21 (by decide) (fun h21 => ?_) (fun h21 => ?_)
    · exact absurd h21 (by decide)
    · refine k_aload_n 0 dX5_watchSensor_24 rfl rfl ?_
      refine k_getfield dX5_watchSensor_25 hc_X5 hs.1.1 hs.1.2 10 (by decide) wF_X5_77 rfl ?_
      refine k_iconst (1) dX5_watchSensor_28 (by decide) ?_
      refine k_iadd dX5_watchSensor_29 ?_
      refine k_goto 34 dX5_watchSensor_30 (by decide) ?_
      refine k_putfield dX5_watchSensor_34 hc_X5 hs.1.1 hs.1.2 10 (by decide) wF_X5_77 rfl rfl (t9 := .int) (by decide +kernel) rfl rfl ?_
      refine k_aload_n 0 dX5_watchSensor_37 rfl rfl ?_
      refine k_iload_n 2 dX5_watchSensor_38 rfl rfl ?_
      refine k_ifeq 46 dX5_watchSensor_39 (by decide) (fun h39 => ?_) (fun h39 => ?_)
      · exact absurd h39 (by decide)
      · refine k_iconst (0) dX5_watchSensor_42 (by decide) ?_
        refine k_goto 52 dX5_watchSensor_43 (by decide) ?_
        refine k_putfield dX5_watchSensor_52 hc_X5 hs.1.1 hs.1.2 11 (by decide) wF_X5_80 rfl rfl (t9 := .int) (by decide +kernel) rfl rfl ?_
        dsimp only [kf_watch, kf_w1] at hQ
        rw [if_neg h10] at hQ
        exact cut55 _ _ hQ

