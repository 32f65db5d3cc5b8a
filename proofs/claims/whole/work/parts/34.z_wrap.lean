-- the law's own calls: what a handler answers
def kn_Ca (X : kn_X) (M : kn_M) (pc : Nat) (lv : kn_L) (σ : kn_S) (τ : kn_T) (z : kn_Z) (c n : Nat) (Q : kn_Q) : Prop :=
  ∀ (D : va_G) (cs : Nat → ClassId) (z0 : Nat) (ar : Nat → Nat) (p : Program) (l : Launch) (e : Env) (R : Room) (s : State) (m : MethodId) (args : Array Value) (below : List Frame) (meth : Method) (cd : Code) (n0 : Nat) (a0 : Nat → Nat) (mc ms : Nat) (QF : State → Prop),
    kn_Cx X M D cs z0 ar p l e R s m args below meth cd n0 a0 mc ms QF Q →
    ∀ (ad : Nat → Nat) (H : Heap) (locs : List Loc) (ls : Array Slot) (cells slots : Nat), kn_At M lv σ τ z c n D cs z0 ar s n0 a0 mc ms ad H locs ls cells slots →
      ∀ q : Addr, W p l e R s m args below meth cd H locs cells slots QF (F0 m pc ls [.ref q])
theorem k_catch0 {X : kn_X} {M : kn_M} {lv : kn_L} {σ : kn_S} {τ : kn_T} {z : kn_Z} {c n : Nat} {Q : kn_Q} {pc : Nat} {E : String} {h0 : Nat × Nat × Nat × Nat} {hr : List (Nat × Nat × Nat × Nat)} (hM : M.2.2.2.2.1 = h0 :: hr) (hcov : covers ⟨h0.1, h0.2.1, h0.2.2.1, h0.2.2.2⟩ pc = true) (hct : h0.2.2.2 ≠ 0) (hL : Cond.classLink M.1.cls h0.2.2.2 E ∈ kn_ws) (hcast : Cond.castable E E ∈ kn_bad)
    (kk : kn_Ca X M h0.2.2.1 lv σ τ z c n Q) : kn_Th X M pc lv E σ τ z c n Q := by
  intro D cs z0 ar p l e R s m args below meth cd n0 a0 mc ms QF Cx ad H locs ls cells slots hA q ce rest hq hv hcl
  have hts := Cx.1.1.2.2.2.2
  have htab := Cx.1.2.1.2.2.2.1
  rw [hM] at htab
  exact vx_catch Cx.1.1.2.2.2.1 [] ⟨h0.1, h0.2.1, h0.2.2.1, h0.2.2.2⟩ (tableOf hr) htab (fun _ h => absurd h List.not_mem_nil) hcov hct (hts _ hL) (kn_bad_use (List.mem_filter.mp hcast).2 (Cx.1.2.2.2.2.2.2.2.2.1 _ hcast)) hq hv hcl (kk D cs z0 ar p l e R s m args below meth cd n0 a0 mc ms QF Cx ad H locs ls cells slots hA q)
theorem k_catch1 {X : kn_X} {M : kn_M} {lv : kn_L} {σ : kn_S} {τ : kn_T} {z : kn_Z} {c n : Nat} {Q : kn_Q} {pc : Nat} {E E0 : String} {h0 h1 : Nat × Nat × Nat × Nat} {hr : List (Nat × Nat × Nat × Nat)} (hM : M.2.2.2.2.1 = h0 :: h1 :: hr) (hct0 : h0.2.2.2 ≠ 0) (hL0 : Cond.classLink M.1.cls h0.2.2.2 E0 ∈ kn_ws) (hno : (E, E0) = ("java/lang/IllegalArgumentException", "java/lang/IndexOutOfBoundsException") ∨ (E, E0) = ("java/lang/IllegalStateException", "java/lang/IllegalArgumentException"))
    (hcov : covers ⟨h1.1, h1.2.1, h1.2.2.1, h1.2.2.2⟩ pc = true) (hct : h1.2.2.2 ≠ 0) (hL : Cond.classLink M.1.cls h1.2.2.2 E ∈ kn_ws) (hcast : Cond.castable E E ∈ kn_bad)
    (kk : kn_Ca X M h1.2.2.1 lv σ τ z c n Q) : kn_Th X M pc lv E σ τ z c n Q := by
  intro D cs z0 ar p l e R s m args below meth cd n0 a0 mc ms QF Cx ad H locs ls cells slots hA q ce rest hq hv hcl
  have hts := Cx.1.1.2.2.2.2
  have htab := Cx.1.2.1.2.2.2.1
  rw [hM] at htab
  have hnc : va_Nc E E0 s := by
    have hp := Cx.1.2.2.2.2.2.2.2.2.2.1
    rcases hno with h | h
    · cases h; exact hp.1
    · cases h; exact hp.2
  exact vx_catch Cx.1.1.2.2.2.1 [⟨h0.1, h0.2.1, h0.2.2.1, h0.2.2.2⟩] ⟨h1.1, h1.2.1, h1.2.2.1, h1.2.2.2⟩ (tableOf hr) htab (fun x h => by
      obtain rfl := List.mem_singleton.mp h
      exact Or.inr ⟨hct0, E0, hts _ hL0, hnc⟩) hcov hct (hts _ hL) (kn_bad_use (List.mem_filter.mp hcast).2 (Cx.1.2.2.2.2.2.2.2.2.1 _ hcast)) hq hv hcl (kk D cs z0 ar p l e R s m args below meth cd n0 a0 mc ms QF Cx ad H locs ls cells slots hA q)
theorem k_castore_n {X : kn_X} {M : kn_M} {lv : kn_L} {σ : kn_S} {τ : kn_T} {z : kn_Z} {c n : Nat} {Q : kn_Q} {pc : Nat} {k9 : Fin 4} (hd : decode M.2.1 pc = .ok (.astore_n k9, 1)) (hn : (k9 : Nat) < M.2.2.1) (k : kn_Go X M (pc + 1) [] [] σ τ z c n Q) : kn_Ca X M pc lv σ τ z c n Q := by
  intro D cs z0 ar p l e R s m args below meth cd n0 a0 mc ms QF Cx ad H locs ls cells slots hA q
  refine lv_astore_n Cx.1.1.1 Cx.1.1.2.1 hd rfl hA.2.2.2.2 hn rfl (fun ls' hl' => ?_)
  exact k D cs z0 ar p l e R s m args below meth cd n0 a0 mc ms QF Cx ad H locs ls' cells slots ⟨hA.1, hA.2.1, hA.2.2.1, hA.2.2.2.1, ⟨hl'.1, hl'.2.1, fun x hx => absurd hx List.not_mem_nil⟩⟩
theorem k_castore {X : kn_X} {M : kn_M} {lv : kn_L} {σ : kn_S} {τ : kn_T} {z : kn_Z} {c n : Nat} {Q : kn_Q} {pc i : Nat} (hd : decode M.2.1 pc = .ok (.astore i, 2)) (hn : i < M.2.2.1) (k : kn_Go X M (pc + 2) [] [] σ τ z c n Q) : kn_Ca X M pc lv σ τ z c n Q := by
  intro D cs z0 ar p l e R s m args below meth cd n0 a0 mc ms QF Cx ad H locs ls cells slots hA q
  refine lv_astore Cx.1.1.1 Cx.1.1.2.1 hd hA.2.2.2.2 hn rfl (fun ls' hl' => ?_)
  exact k D cs z0 ar p l e R s m args below meth cd n0 a0 mc ms QF Cx ad H locs ls' cells slots ⟨hA.1, hA.2.1, hA.2.2.1, hA.2.2.2.1, ⟨hl'.1, hl'.2.1, fun x hx => absurd hx List.not_mem_nil⟩⟩
theorem wE13 : Cond.classLink RL 13 "java/lang/IllegalArgumentException" ∈ kn_ws := kn_in 452 (by decide +kernel) (by decide +kernel)
theorem wE26 : Cond.classLink RL 26 "java/lang/IndexOutOfBoundsException" ∈ kn_ws := kn_in 554 (by decide +kernel) (by decide +kernel)
theorem wE77 : Cond.classLink RL 77 "java/lang/IllegalStateException" ∈ kn_ws := kn_in 726 (by decide +kernel) (by decide +kernel)
theorem wX13 : Cond.castable "java/lang/IllegalArgumentException" "java/lang/IllegalArgumentException" ∈ kn_bad := kn_inb 462 (by decide +kernel) (by decide +kernel)
theorem wX26 : Cond.castable "java/lang/IndexOutOfBoundsException" "java/lang/IndexOutOfBoundsException" ∈ kn_bad := kn_inb 567 (by decide +kernel) (by decide +kernel)
theorem wX77 : Cond.castable "java/lang/IllegalStateException" "java/lang/IllegalStateException" ∈ kn_bad := kn_inb 736 (by decide +kernel) (by decide +kernel)
/-- what a call of the class gives to the one that stores it: a number or one of these exceptions -/
def kn_LR (Q : kn_Q) (z : kn_Z) (Es : List (String × Int32)) : kn_Q := fun o σ τ z' => z' = z ∧ match o with
  | .inl (some (.int v)) => Q (.inl (some (.int 0))) σ (kn_upT τ 133 0 v.toInt64) z
  | .inr E => ∃ k, (E, k) ∈ Es ∧ Q (.inl (some (.int k))) σ τ z
  | _ => False
def kn_LD (Q : kn_Q) (z : kn_Z) (Es : List (String × Int32)) : kn_Q := fun o σ τ z' => z' = z ∧ match o with
  | .inl (some (.double v)) => Q (.inl (some (.int 0))) σ (kn_upT τ 134 0 v.toInt64) z
  | .inr E => ∃ k, (E, k) ∈ Es ∧ Q (.inl (some (.int k))) σ τ z
  | _ => False

set_option maxRecDepth 100000 in
set_option maxHeartbeats 4000000 in
theorem m_L_begin {X : kn_X} {σ : kn_S} {τ : kn_T} {z : kn_Z} {c n : Nat} {Q : kn_Q} {x0 : Int32} (hK : kn_isK z) (ho : 133 < z.1 ∧ z.2 133 = .inr (.inl (1, 1))) (hE : ∀ Q6 : kn_Q, (∀ o σ9 τ9 z9, kn_LR Q z [("java/lang/IllegalArgumentException", 1)] o σ9 τ9 z9 → Q6 o σ9 τ9 z9) → kn_Ev X MX6_begin [.ref 0, .int x0] σ τ z c n Q6) : kn_Ev X ML_begin [.ref 0, .int x0, .ref 133] σ τ z c n Q := by
  refine kn_entryH (by decide +kernel) rfl (Nat.le_of_ble_eq_true rfl) ?_
  show kn_Go X ML_begin 0 [(0, .ref 0), (1, .int x0), (2, .ref 133)] [] _ _ _ _ _ _
  refine k_aload_n 2 dL_begin_0 rfl rfl ?_
  refine k_iconst (0) dL_begin_1 (by decide) ?_
  refine k_aload_n 0 dL_begin_2 rfl rfl ?_
  refine k_iload_n 1 dL_begin_3 rfl rfl ?_
  refine k_invV (As := [_]) dL_begin_4 mm_X6_begin wL_L_7 ⟨by decide, by decide⟩ hK.1.1 hK.1.2 rfl rfl (Nat.le_of_ble_eq_true rfl) (Nat.le_refl c) (Nat.le_refl n) (hE _ ?_)
  intro o σ9 τ9 z9 h9
  obtain ⟨rfl, h9⟩ := h9
  rcases o with (_ | v) | E
  · exact absurd h9 id
  · cases v with
    | int v =>
      refine ⟨rfl, ?_⟩
      refine k_i2l dL_begin_7 ?_
      refine k_lastore dL_begin_8 ho.1 ho.2 (vp_in_nI (n := 0) (by decide) (by decide)) ?_
      refine k_goto 15 dL_begin_9 (by decide) ?_
      refine k_iconst (0) dL_begin_15 (by decide) ?_
      refine k_iret dL_begin_16 rfl (rfl) ?_
      exact h9
    | _ => exact absurd h9 id
  · obtain ⟨k, hk, h9⟩ := h9
    refine ⟨rfl, ?_⟩
    simp only [List.mem_cons, List.not_mem_nil, or_false, Prod.mk.injEq] at hk
    obtain ⟨rfl, rfl⟩ := hk
    exact k_catch0 rfl (by decide) (by decide) wE13 wX13 (k_castore_n dL_begin_12 (by decide) (k_iconst (1) dL_begin_13 (by decide) (k_iret dL_begin_14 rfl (rfl) h9)))

set_option maxRecDepth 100000 in
set_option maxHeartbeats 4000000 in
theorem m_L_set {X : kn_X} {σ : kn_S} {τ : kn_T} {z : kn_Z} {c n : Nat} {Q : kn_Q} {x0 x1 : Int32} (hK : kn_isK z) (ho : 133 < z.1 ∧ z.2 133 = .inr (.inl (1, 1))) (hE : ∀ Q6 : kn_Q, (∀ o σ9 τ9 z9, kn_LR Q z [("java/lang/IllegalArgumentException", 1)] o σ9 τ9 z9 → Q6 o σ9 τ9 z9) → kn_Ev X MX6_set [.ref 0, .int x0, .int x1] σ τ z c n Q6) : kn_Ev X ML_set [.ref 0, .int x0, .int x1, .ref 133] σ τ z c n Q := by
  refine kn_entryH (by decide +kernel) rfl (Nat.le_of_ble_eq_true rfl) ?_
  show kn_Go X ML_set 0 [(0, .ref 0), (1, .int x0), (2, .int x1), (3, .ref 133)] [] _ _ _ _ _ _
  refine k_aload_n 3 dL_set_0 rfl rfl ?_
  refine k_iconst (0) dL_set_1 (by decide) ?_
  refine k_aload_n 0 dL_set_2 rfl rfl ?_
  refine k_iload_n 1 dL_set_3 rfl rfl ?_
  refine k_iload_n 2 dL_set_4 rfl rfl ?_
  refine k_invV (As := [_, _]) dL_set_5 mm_X6_set wL_L_15 ⟨by decide, by decide⟩ hK.1.1 hK.1.2 rfl rfl (Nat.le_of_ble_eq_true rfl) (Nat.le_refl c) (Nat.le_refl n) (hE _ ?_)
  intro o σ9 τ9 z9 h9
  obtain ⟨rfl, h9⟩ := h9
  rcases o with (_ | v) | E
  · exact absurd h9 id
  · cases v with
    | int v =>
      refine ⟨rfl, ?_⟩
      refine k_i2l dL_set_8 ?_
      refine k_lastore dL_set_9 ho.1 ho.2 (vp_in_nI (n := 0) (by decide) (by decide)) ?_
      refine k_goto 17 dL_set_10 (by decide) ?_
      refine k_iconst (0) dL_set_17 (by decide) ?_
      refine k_iret dL_set_18 rfl (rfl) ?_
      exact h9
    | _ => exact absurd h9 id
  · obtain ⟨k, hk, h9⟩ := h9
    refine ⟨rfl, ?_⟩
    simp only [List.mem_cons, List.not_mem_nil, or_false, Prod.mk.injEq] at hk
    obtain ⟨rfl, rfl⟩ := hk
    exact k_catch0 rfl (by decide) (by decide) wE13 wX13 (k_castore dL_set_13 (by decide) (k_iconst (1) dL_set_15 (by decide) (k_iret dL_set_16 rfl (rfl) h9)))

set_option maxRecDepth 100000 in
set_option maxHeartbeats 4000000 in
theorem m_L_value {X : kn_X} {σ : kn_S} {τ : kn_T} {z : kn_Z} {c n : Nat} {Q : kn_Q} {x0 : Int32} (hK : kn_isK z) (ho : 133 < z.1 ∧ z.2 133 = .inr (.inl (1, 1))) (hE : ∀ Q6 : kn_Q, (∀ o σ9 τ9 z9, kn_LR Q z [("java/lang/IllegalArgumentException", 1)] o σ9 τ9 z9 → Q6 o σ9 τ9 z9) → kn_Ev X MX6_value [.ref 0, .int x0] σ τ z c n Q6) : kn_Ev X ML_value [.ref 0, .int x0, .ref 133] σ τ z c n Q := by
  refine kn_entryH (by decide +kernel) rfl (Nat.le_of_ble_eq_true rfl) ?_
  show kn_Go X ML_value 0 [(0, .ref 0), (1, .int x0), (2, .ref 133)] [] _ _ _ _ _ _
  refine k_aload_n 2 dL_value_0 rfl rfl ?_
  refine k_iconst (0) dL_value_1 (by decide) ?_
  refine k_aload_n 0 dL_value_2 rfl rfl ?_
  refine k_iload_n 1 dL_value_3 rfl rfl ?_
  refine k_invV (As := [_]) dL_value_4 mm_X6_value wL_L_19 ⟨by decide, by decide⟩ hK.1.1 hK.1.2 rfl rfl (Nat.le_of_ble_eq_true rfl) (Nat.le_refl c) (Nat.le_refl n) (hE _ ?_)
  intro o σ9 τ9 z9 h9
  obtain ⟨rfl, h9⟩ := h9
  rcases o with (_ | v) | E
  · exact absurd h9 id
  · cases v with
    | int v =>
      refine ⟨rfl, ?_⟩
      refine k_i2l dL_value_7 ?_
      refine k_lastore dL_value_8 ho.1 ho.2 (vp_in_nI (n := 0) (by decide) (by decide)) ?_
      refine k_goto 15 dL_value_9 (by decide) ?_
      refine k_iconst (0) dL_value_15 (by decide) ?_
      refine k_iret dL_value_16 rfl (rfl) ?_
      exact h9
    | _ => exact absurd h9 id
  · obtain ⟨k, hk, h9⟩ := h9
    refine ⟨rfl, ?_⟩
    simp only [List.mem_cons, List.not_mem_nil, or_false, Prod.mk.injEq] at hk
    obtain ⟨rfl, rfl⟩ := hk
    exact k_catch0 rfl (by decide) (by decide) wE13 wX13 (k_castore_n dL_value_12 (by decide) (k_iconst (1) dL_value_13 (by decide) (k_iret dL_value_14 rfl (rfl) h9)))

set_option maxRecDepth 100000 in
set_option maxHeartbeats 4000000 in
theorem m_L_teach {X : kn_X} {σ : kn_S} {τ : kn_T} {z : kn_Z} {c n : Nat} {Q : kn_Q} {x0 x1 x2 : Int32} (hK : kn_isK z) (ho : 133 < z.1 ∧ z.2 133 = .inr (.inl (1, 1))) (hE : ∀ Q6 : kn_Q, (∀ o σ9 τ9 z9, kn_LR Q z [("java/lang/IndexOutOfBoundsException", 1), ("java/lang/IllegalArgumentException", 2)] o σ9 τ9 z9 → Q6 o σ9 τ9 z9) → kn_Ev X MX6_teach [.ref 0, .int x0, .int x1, .int x2] σ τ z c n Q6) : kn_Ev X ML_teach [.ref 0, .int x0, .int x1, .int x2, .ref 133] σ τ z c n Q := by
  refine kn_entryH (by decide +kernel) rfl (Nat.le_of_ble_eq_true rfl) ?_
  show kn_Go X ML_teach 0 [(0, .ref 0), (1, .int x0), (2, .int x1), (3, .int x2), (4, .ref 133)] [] _ _ _ _ _ _
  refine k_aload dL_teach_0 rfl ?_
  refine k_iconst (0) dL_teach_2 (by decide) ?_
  refine k_aload_n 0 dL_teach_3 rfl rfl ?_
  refine k_iload_n 1 dL_teach_4 rfl rfl ?_
  refine k_iload_n 2 dL_teach_5 rfl rfl ?_
  refine k_iload_n 3 dL_teach_6 rfl rfl ?_
  refine k_invV (As := [_, _, _]) dL_teach_7 mm_X6_teach wL_L_22 ⟨by decide, by decide⟩ hK.1.1 hK.1.2 rfl rfl (Nat.le_of_ble_eq_true rfl) (Nat.le_refl c) (Nat.le_refl n) (hE _ ?_)
  intro o σ9 τ9 z9 h9
  obtain ⟨rfl, h9⟩ := h9
  rcases o with (_ | v) | E
  · exact absurd h9 id
  · cases v with
    | int v =>
      refine ⟨rfl, ?_⟩
      refine k_i2l dL_teach_10 ?_
      refine k_lastore dL_teach_11 ho.1 ho.2 (vp_in_nI (n := 0) (by decide) (by decide)) ?_
      refine k_goto 23 dL_teach_12 (by decide) ?_
      refine k_iconst (0) dL_teach_23 (by decide) ?_
      refine k_iret dL_teach_24 rfl (rfl) ?_
      exact h9
    | _ => exact absurd h9 id
  · obtain ⟨k, hk, h9⟩ := h9
    refine ⟨rfl, ?_⟩
    simp only [List.mem_cons, List.not_mem_nil, or_false, Prod.mk.injEq] at hk
    rcases hk with ⟨rfl, rfl⟩ | ⟨rfl, rfl⟩
    · exact k_catch0 rfl (by decide) (by decide) wE26 wX26 (k_castore dL_teach_15 (by decide) (k_iconst (1) dL_teach_17 (by decide) (k_iret dL_teach_18 rfl (rfl) h9)))
    · exact k_catch1 rfl (by decide) wE26 (by decide) (by decide) (by decide) wE13 wX13 (k_castore dL_teach_19 (by decide) (k_iconst (2) dL_teach_21 (by decide) (k_iret dL_teach_22 rfl (rfl) h9)))

set_option maxRecDepth 100000 in
set_option maxHeartbeats 4000000 in
theorem m_L_seed {X : kn_X} {σ : kn_S} {τ : kn_T} {z : kn_Z} {c n : Nat} {Q : kn_Q} {x0 : Int32} (hK : kn_isK z) (ho : 133 < z.1 ∧ z.2 133 = .inr (.inl (1, 1))) (hE : ∀ Q6 : kn_Q, (∀ o σ9 τ9 z9, kn_LR Q z [("java/lang/IllegalArgumentException", 1)] o σ9 τ9 z9 → Q6 o σ9 τ9 z9) → kn_Ev X MX6_seed [.ref 0, .int x0] σ τ z c n Q6) : kn_Ev X ML_seed [.ref 0, .int x0, .ref 133] σ τ z c n Q := by
  refine kn_entryH (by decide +kernel) rfl (Nat.le_of_ble_eq_true rfl) ?_
  show kn_Go X ML_seed 0 [(0, .ref 0), (1, .int x0), (2, .ref 133)] [] _ _ _ _ _ _
  refine k_aload_n 2 dL_seed_0 rfl rfl ?_
  refine k_iconst (0) dL_seed_1 (by decide) ?_
  refine k_aload_n 0 dL_seed_2 rfl rfl ?_
  refine k_iload_n 1 dL_seed_3 rfl rfl ?_
  refine k_invV (As := [_]) dL_seed_4 mm_X6_seed wL_L_28 ⟨by decide, by decide⟩ hK.1.1 hK.1.2 rfl rfl (Nat.le_of_ble_eq_true rfl) (Nat.le_refl c) (Nat.le_refl n) (hE _ ?_)
  intro o σ9 τ9 z9 h9
  obtain ⟨rfl, h9⟩ := h9
  rcases o with (_ | v) | E
  · exact absurd h9 id
  · cases v with
    | int v =>
      refine ⟨rfl, ?_⟩
      refine k_i2l dL_seed_7 ?_
      refine k_lastore dL_seed_8 ho.1 ho.2 (vp_in_nI (n := 0) (by decide) (by decide)) ?_
      refine k_goto 15 dL_seed_9 (by decide) ?_
      refine k_iconst (0) dL_seed_15 (by decide) ?_
      refine k_iret dL_seed_16 rfl (rfl) ?_
      exact h9
    | _ => exact absurd h9 id
  · obtain ⟨k, hk, h9⟩ := h9
    refine ⟨rfl, ?_⟩
    simp only [List.mem_cons, List.not_mem_nil, or_false, Prod.mk.injEq] at hk
    obtain ⟨rfl, rfl⟩ := hk
    exact k_catch0 rfl (by decide) (by decide) wE13 wX13 (k_castore_n dL_seed_12 (by decide) (k_iconst (1) dL_seed_13 (by decide) (k_iret dL_seed_14 rfl (rfl) h9)))

set_option maxRecDepth 100000 in
set_option maxHeartbeats 4000000 in
theorem m_L_fire {X : kn_X} {σ : kn_S} {τ : kn_T} {z : kn_Z} {c n : Nat} {Q : kn_Q} {x0 x1 x2 : Int32} (hK : kn_isK z) (ho : 133 < z.1 ∧ z.2 133 = .inr (.inl (1, 1))) (hE : ∀ Q6 : kn_Q, (∀ o σ9 τ9 z9, kn_LR Q z [("java/lang/IllegalArgumentException", 1)] o σ9 τ9 z9 → Q6 o σ9 τ9 z9) → kn_Ev X MX6_fire [.ref 0, .int x0, .int x1, .int x2] σ τ z c n Q6) : kn_Ev X ML_fire [.ref 0, .int x0, .int x1, .int x2, .ref 133] σ τ z c n Q := by
  refine kn_entryH (by decide +kernel) rfl (Nat.le_of_ble_eq_true rfl) ?_
  show kn_Go X ML_fire 0 [(0, .ref 0), (1, .int x0), (2, .int x1), (3, .int x2), (4, .ref 133)] [] _ _ _ _ _ _
  refine k_aload dL_fire_0 rfl ?_
  refine k_iconst (0) dL_fire_2 (by decide) ?_
  refine k_aload_n 0 dL_fire_3 rfl rfl ?_
  refine k_iload_n 1 dL_fire_4 rfl rfl ?_
  refine k_iload_n 2 dL_fire_5 rfl rfl ?_
  refine k_iload_n 3 dL_fire_6 rfl rfl ?_
  refine k_invV (As := [_, _, _]) dL_fire_7 mm_X6_fire wL_L_31 ⟨by decide, by decide⟩ hK.1.1 hK.1.2 rfl rfl (Nat.le_of_ble_eq_true rfl) (Nat.le_refl c) (Nat.le_refl n) (hE _ ?_)
  intro o σ9 τ9 z9 h9
  obtain ⟨rfl, h9⟩ := h9
  rcases o with (_ | v) | E
  · exact absurd h9 id
  · cases v with
    | int v =>
      refine ⟨rfl, ?_⟩
      refine k_i2l dL_fire_10 ?_
      refine k_lastore dL_fire_11 ho.1 ho.2 (vp_in_nI (n := 0) (by decide) (by decide)) ?_
      refine k_goto 19 dL_fire_12 (by decide) ?_
      refine k_iconst (0) dL_fire_19 (by decide) ?_
      refine k_iret dL_fire_20 rfl (rfl) ?_
      exact h9
    | _ => exact absurd h9 id
  · obtain ⟨k, hk, h9⟩ := h9
    refine ⟨rfl, ?_⟩
    simp only [List.mem_cons, List.not_mem_nil, or_false, Prod.mk.injEq] at hk
    obtain ⟨rfl, rfl⟩ := hk
    exact k_catch0 rfl (by decide) (by decide) wE13 wX13 (k_castore dL_fire_15 (by decide) (k_iconst (1) dL_fire_17 (by decide) (k_iret dL_fire_18 rfl (rfl) h9)))

set_option maxRecDepth 100000 in
set_option maxHeartbeats 4000000 in
theorem m_L_drive {X : kn_X} {σ : kn_S} {τ : kn_T} {z : kn_Z} {c n : Nat} {Q : kn_Q} {x0 x1 x2 x3 : Int32} (hK : kn_isK z) (ho : 133 < z.1 ∧ z.2 133 = .inr (.inl (1, 1))) (hE : ∀ Q6 : kn_Q, (∀ o σ9 τ9 z9, kn_LR Q z [("java/lang/IllegalArgumentException", 1)] o σ9 τ9 z9 → Q6 o σ9 τ9 z9) → kn_Ev X MX6_drive [.ref 0, .int x0, .int x1, .int x2, .int x3] σ τ z c n Q6) : kn_Ev X ML_drive [.ref 0, .int x0, .int x1, .int x2, .int x3, .ref 133] σ τ z c n Q := by
  refine kn_entryH (by decide +kernel) rfl (Nat.le_of_ble_eq_true rfl) ?_
  show kn_Go X ML_drive 0 [(0, .ref 0), (1, .int x0), (2, .int x1), (3, .int x2), (4, .int x3), (5, .ref 133)] [] _ _ _ _ _ _
  refine k_aload dL_drive_0 rfl ?_
  refine k_iconst (0) dL_drive_2 (by decide) ?_
  refine k_aload_n 0 dL_drive_3 rfl rfl ?_
  refine k_iload_n 1 dL_drive_4 rfl rfl ?_
  refine k_iload_n 2 dL_drive_5 rfl rfl ?_
  refine k_iload_n 3 dL_drive_6 rfl rfl ?_
  refine k_iload dL_drive_7 rfl ?_
  refine k_invV (As := [_, _, _, _]) dL_drive_9 mm_X6_drive wL_L_34 ⟨by decide, by decide⟩ hK.1.1 hK.1.2 rfl rfl (Nat.le_of_ble_eq_true rfl) (Nat.le_refl c) (Nat.le_refl n) (hE _ ?_)
  intro o σ9 τ9 z9 h9
  obtain ⟨rfl, h9⟩ := h9
  rcases o with (_ | v) | E
  · exact absurd h9 id
  · cases v with
    | int v =>
      refine ⟨rfl, ?_⟩
      refine k_i2l dL_drive_12 ?_
      refine k_lastore dL_drive_13 ho.1 ho.2 (vp_in_nI (n := 0) (by decide) (by decide)) ?_
      refine k_goto 21 dL_drive_14 (by decide) ?_
      refine k_iconst (0) dL_drive_21 (by decide) ?_
      refine k_iret dL_drive_22 rfl (rfl) ?_
      exact h9
    | _ => exact absurd h9 id
  · obtain ⟨k, hk, h9⟩ := h9
    refine ⟨rfl, ?_⟩
    simp only [List.mem_cons, List.not_mem_nil, or_false, Prod.mk.injEq] at hk
    obtain ⟨rfl, rfl⟩ := hk
    exact k_catch0 rfl (by decide) (by decide) wE13 wX13 (k_castore dL_drive_17 (by decide) (k_iconst (1) dL_drive_19 (by decide) (k_iret dL_drive_20 rfl (rfl) h9)))

set_option maxRecDepth 100000 in
set_option maxHeartbeats 4000000 in
theorem m_L_cylinder {X : kn_X} {σ : kn_S} {τ : kn_T} {z : kn_Z} {c n : Nat} {Q : kn_Q} {x0 x1 : Int32} (hK : kn_isK z) (ho : 133 < z.1 ∧ z.2 133 = .inr (.inl (1, 1))) (hE : ∀ Q6 : kn_Q, (∀ o σ9 τ9 z9, kn_LR Q z [("java/lang/IndexOutOfBoundsException", 1), ("java/lang/IllegalArgumentException", 2)] o σ9 τ9 z9 → Q6 o σ9 τ9 z9) → kn_Ev X MX6_cylinder [.ref 0, .int x0, .int x1] σ τ z c n Q6) : kn_Ev X ML_cylinder [.ref 0, .int x0, .int x1, .ref 133] σ τ z c n Q := by
  refine kn_entryH (by decide +kernel) rfl (Nat.le_of_ble_eq_true rfl) ?_
  show kn_Go X ML_cylinder 0 [(0, .ref 0), (1, .int x0), (2, .int x1), (3, .ref 133)] [] _ _ _ _ _ _
  refine k_aload_n 3 dL_cylinder_0 rfl rfl ?_
  refine k_iconst (0) dL_cylinder_1 (by decide) ?_
  refine k_aload_n 0 dL_cylinder_2 rfl rfl ?_
  refine k_iload_n 1 dL_cylinder_3 rfl rfl ?_
  refine k_iload_n 2 dL_cylinder_4 rfl rfl ?_
  refine k_invV (As := [_, _]) dL_cylinder_5 mm_X6_cylinder wL_L_38 ⟨by decide, by decide⟩ hK.1.1 hK.1.2 rfl rfl (Nat.le_of_ble_eq_true rfl) (Nat.le_refl c) (Nat.le_refl n) (hE _ ?_)
  intro o σ9 τ9 z9 h9
  obtain ⟨rfl, h9⟩ := h9
  rcases o with (_ | v) | E
  · exact absurd h9 id
  · cases v with
    | int v =>
      refine ⟨rfl, ?_⟩
      refine k_i2l dL_cylinder_8 ?_
      refine k_lastore dL_cylinder_9 ho.1 ho.2 (vp_in_nI (n := 0) (by decide) (by decide)) ?_
      refine k_goto 21 dL_cylinder_10 (by decide) ?_
      refine k_iconst (0) dL_cylinder_21 (by decide) ?_
      refine k_iret dL_cylinder_22 rfl (rfl) ?_
      exact h9
    | _ => exact absurd h9 id
  · obtain ⟨k, hk, h9⟩ := h9
    refine ⟨rfl, ?_⟩
    simp only [List.mem_cons, List.not_mem_nil, or_false, Prod.mk.injEq] at hk
    rcases hk with ⟨rfl, rfl⟩ | ⟨rfl, rfl⟩
    · exact k_catch0 rfl (by decide) (by decide) wE26 wX26 (k_castore dL_cylinder_13 (by decide) (k_iconst (1) dL_cylinder_15 (by decide) (k_iret dL_cylinder_16 rfl (rfl) h9)))
    · exact k_catch1 rfl (by decide) wE26 (by decide) (by decide) (by decide) wE13 wX13 (k_castore dL_cylinder_17 (by decide) (k_iconst (2) dL_cylinder_19 (by decide) (k_iret dL_cylinder_20 rfl (rfl) h9)))

set_option maxRecDepth 100000 in
set_option maxHeartbeats 4000000 in
theorem m_L_learned {X : kn_X} {σ : kn_S} {τ : kn_T} {z : kn_Z} {c n : Nat} {Q : kn_Q} {x0 x1 : Int32} (hK : kn_isK z) (ho : 133 < z.1 ∧ z.2 133 = .inr (.inl (1, 1))) (hE : ∀ Q6 : kn_Q, (∀ o σ9 τ9 z9, kn_LR Q z [("java/lang/IndexOutOfBoundsException", 1)] o σ9 τ9 z9 → Q6 o σ9 τ9 z9) → kn_Ev X MX6_learned [.ref 0, .int x0, .int x1] σ τ z c n Q6) : kn_Ev X ML_learned [.ref 0, .int x0, .int x1, .ref 133] σ τ z c n Q := by
  refine kn_entryH (by decide +kernel) rfl (Nat.le_of_ble_eq_true rfl) ?_
  show kn_Go X ML_learned 0 [(0, .ref 0), (1, .int x0), (2, .int x1), (3, .ref 133)] [] _ _ _ _ _ _
  refine k_aload_n 3 dL_learned_0 rfl rfl ?_
  refine k_iconst (0) dL_learned_1 (by decide) ?_
  refine k_aload_n 0 dL_learned_2 rfl rfl ?_
  refine k_iload_n 1 dL_learned_3 rfl rfl ?_
  refine k_iload_n 2 dL_learned_4 rfl rfl ?_
  refine k_invV (As := [_, _]) dL_learned_5 mm_X6_learned wL_L_41 ⟨by decide, by decide⟩ hK.1.1 hK.1.2 rfl rfl (Nat.le_of_ble_eq_true rfl) (Nat.le_refl c) (Nat.le_refl n) (hE _ ?_)
  intro o σ9 τ9 z9 h9
  obtain ⟨rfl, h9⟩ := h9
  rcases o with (_ | v) | E
  · exact absurd h9 id
  · cases v with
    | int v =>
      refine ⟨rfl, ?_⟩
      refine k_i2l dL_learned_8 ?_
      refine k_lastore dL_learned_9 ho.1 ho.2 (vp_in_nI (n := 0) (by decide) (by decide)) ?_
      refine k_goto 17 dL_learned_10 (by decide) ?_
      refine k_iconst (0) dL_learned_17 (by decide) ?_
      refine k_iret dL_learned_18 rfl (rfl) ?_
      exact h9
    | _ => exact absurd h9 id
  · obtain ⟨k, hk, h9⟩ := h9
    refine ⟨rfl, ?_⟩
    simp only [List.mem_cons, List.not_mem_nil, or_false, Prod.mk.injEq] at hk
    obtain ⟨rfl, rfl⟩ := hk
    exact k_catch0 rfl (by decide) (by decide) wE26 wX26 (k_castore dL_learned_13 (by decide) (k_iconst (1) dL_learned_15 (by decide) (k_iret dL_learned_16 rfl (rfl) h9)))

set_option maxRecDepth 100000 in
set_option maxHeartbeats 4000000 in
theorem m_L_angle {X : kn_X} {σ : kn_S} {τ : kn_T} {z : kn_Z} {c n : Nat} {Q : kn_Q} {x0 x1 x2 x3 : Int32} (hK : kn_isK z) (ho : 133 < z.1 ∧ z.2 133 = .inr (.inl (1, 1))) (hE : ∀ Q6 : kn_Q, (∀ o σ9 τ9 z9, kn_LR Q z [("java/lang/IndexOutOfBoundsException", 1), ("java/lang/IllegalArgumentException", 2)] o σ9 τ9 z9 → Q6 o σ9 τ9 z9) → kn_Ev X MX6_angle [.ref 0, .int x0, .int x1, .int x2, .int x3] σ τ z c n Q6) : kn_Ev X ML_angle [.ref 0, .int x0, .int x1, .int x2, .int x3, .ref 133] σ τ z c n Q := by
  refine kn_entryH (by decide +kernel) rfl (Nat.le_of_ble_eq_true rfl) ?_
  show kn_Go X ML_angle 0 [(0, .ref 0), (1, .int x0), (2, .int x1), (3, .int x2), (4, .int x3), (5, .ref 133)] [] _ _ _ _ _ _
  refine k_aload dL_angle_0 rfl ?_
  refine k_iconst (0) dL_angle_2 (by decide) ?_
  refine k_aload_n 0 dL_angle_3 rfl rfl ?_
  refine k_iload_n 1 dL_angle_4 rfl rfl ?_
  refine k_iload_n 2 dL_angle_5 rfl rfl ?_
  refine k_iload_n 3 dL_angle_6 rfl rfl ?_
  refine k_iload dL_angle_7 rfl ?_
  refine k_invV (As := [_, _, _, _]) dL_angle_9 mm_X6_angle wL_L_44 ⟨by decide, by decide⟩ hK.1.1 hK.1.2 rfl rfl (Nat.le_of_ble_eq_true rfl) (Nat.le_refl c) (Nat.le_refl n) (hE _ ?_)
  intro o σ9 τ9 z9 h9
  obtain ⟨rfl, h9⟩ := h9
  rcases o with (_ | v) | E
  · exact absurd h9 id
  · cases v with
    | int v =>
      refine ⟨rfl, ?_⟩
      refine k_i2l dL_angle_12 ?_
      refine k_lastore dL_angle_13 ho.1 ho.2 (vp_in_nI (n := 0) (by decide) (by decide)) ?_
      refine k_goto 25 dL_angle_14 (by decide) ?_
      refine k_iconst (0) dL_angle_25 (by decide) ?_
      refine k_iret dL_angle_26 rfl (rfl) ?_
      exact h9
    | _ => exact absurd h9 id
  · obtain ⟨k, hk, h9⟩ := h9
    refine ⟨rfl, ?_⟩
    simp only [List.mem_cons, List.not_mem_nil, or_false, Prod.mk.injEq] at hk
    rcases hk with ⟨rfl, rfl⟩ | ⟨rfl, rfl⟩
    · exact k_catch0 rfl (by decide) (by decide) wE26 wX26 (k_castore dL_angle_17 (by decide) (k_iconst (1) dL_angle_19 (by decide) (k_iret dL_angle_20 rfl (rfl) h9)))
    · exact k_catch1 rfl (by decide) wE26 (by decide) (by decide) (by decide) wE13 wX13 (k_castore dL_angle_21 (by decide) (k_iconst (2) dL_angle_23 (by decide) (k_iret dL_angle_24 rfl (rfl) h9)))

set_option maxRecDepth 100000 in
set_option maxHeartbeats 4000000 in
theorem m_L_status {X : kn_X} {σ : kn_S} {τ : kn_T} {z : kn_Z} {c n : Nat} {Q : kn_Q} {x0 : Int32} (hK : kn_isK z) (ho : 133 < z.1 ∧ z.2 133 = .inr (.inl (1, 1))) (hE : ∀ Q6 : kn_Q, (∀ o σ9 τ9 z9, kn_LR Q z [("java/lang/IllegalArgumentException", 1)] o σ9 τ9 z9 → Q6 o σ9 τ9 z9) → kn_Ev X MX6_status [.ref 0, .int x0] σ τ z c n Q6) : kn_Ev X ML_status [.ref 0, .int x0, .ref 133] σ τ z c n Q := by
  refine kn_entryH (by decide +kernel) rfl (Nat.le_of_ble_eq_true rfl) ?_
  show kn_Go X ML_status 0 [(0, .ref 0), (1, .int x0), (2, .ref 133)] [] _ _ _ _ _ _
  refine k_aload_n 2 dL_status_0 rfl rfl ?_
  refine k_iconst (0) dL_status_1 (by decide) ?_
  refine k_aload_n 0 dL_status_2 rfl rfl ?_
  refine k_iload_n 1 dL_status_3 rfl rfl ?_
  refine k_invV (As := [_]) dL_status_4 mm_X6_status wL_L_48 ⟨by decide, by decide⟩ hK.1.1 hK.1.2 rfl rfl (Nat.le_of_ble_eq_true rfl) (Nat.le_refl c) (Nat.le_refl n) (hE _ ?_)
  intro o σ9 τ9 z9 h9
  obtain ⟨rfl, h9⟩ := h9
  rcases o with (_ | v) | E
  · exact absurd h9 id
  · cases v with
    | int v =>
      refine ⟨rfl, ?_⟩
      refine k_i2l dL_status_7 ?_
      refine k_lastore dL_status_8 ho.1 ho.2 (vp_in_nI (n := 0) (by decide) (by decide)) ?_
      refine k_goto 15 dL_status_9 (by decide) ?_
      refine k_iconst (0) dL_status_15 (by decide) ?_
      refine k_iret dL_status_16 rfl (rfl) ?_
      exact h9
    | _ => exact absurd h9 id
  · obtain ⟨k, hk, h9⟩ := h9
    refine ⟨rfl, ?_⟩
    simp only [List.mem_cons, List.not_mem_nil, or_false, Prod.mk.injEq] at hk
    obtain ⟨rfl, rfl⟩ := hk
    exact k_catch0 rfl (by decide) (by decide) wE13 wX13 (k_castore_n dL_status_12 (by decide) (k_iconst (1) dL_status_13 (by decide) (k_iret dL_status_14 rfl (rfl) h9)))

set_option maxRecDepth 100000 in
set_option maxHeartbeats 4000000 in
theorem m_L_octane {X : kn_X} {σ : kn_S} {τ : kn_T} {z : kn_Z} {c n : Nat} {Q : kn_Q} {x0 : Int32} (hK : kn_isK z) (ho : 134 < z.1 ∧ z.2 134 = .inr (.inl (2, 1))) (hE : ∀ Q6 : kn_Q, (∀ o σ9 τ9 z9, kn_LD Q z [("java/lang/IndexOutOfBoundsException", 1)] o σ9 τ9 z9 → Q6 o σ9 τ9 z9) → kn_Ev X MX6_octane [.ref 0, .int x0] σ τ z c n Q6) : kn_Ev X ML_octane [.ref 0, .int x0, .ref 134] σ τ z c n Q := by
  refine kn_entryH (by decide +kernel) rfl (Nat.le_of_ble_eq_true rfl) ?_
  show kn_Go X ML_octane 0 [(0, .ref 0), (1, .int x0), (2, .ref 134)] [] _ _ _ _ _ _
  refine k_aload_n 2 dL_octane_0 rfl rfl ?_
  refine k_iconst (0) dL_octane_1 (by decide) ?_
  refine k_aload_n 0 dL_octane_2 rfl rfl ?_
  refine k_iload_n 1 dL_octane_3 rfl rfl ?_
  refine k_invV (As := [_]) dL_octane_4 mm_X6_octane wL_L_51 ⟨by decide, by decide⟩ hK.1.1 hK.1.2 rfl rfl (Nat.le_of_ble_eq_true rfl) (Nat.le_refl c) (Nat.le_refl n) (hE _ ?_)
  intro o σ9 τ9 z9 h9
  obtain ⟨rfl, h9⟩ := h9
  rcases o with (_ | v) | E
  · exact absurd h9 id
  · cases v with
    | double v =>
      refine ⟨rfl, ?_⟩
      refine k_dastore dL_octane_7 ho.1 ho.2 (vp_in_nI (n := 0) (by decide) (by decide)) ?_
      refine k_goto 14 dL_octane_8 (by decide) ?_
      refine k_iconst (0) dL_octane_14 (by decide) ?_
      refine k_iret dL_octane_15 rfl (rfl) ?_
      exact h9
    | _ => exact absurd h9 id
  · obtain ⟨k, hk, h9⟩ := h9
    refine ⟨rfl, ?_⟩
    simp only [List.mem_cons, List.not_mem_nil, or_false, Prod.mk.injEq] at hk
    obtain ⟨rfl, rfl⟩ := hk
    exact k_catch0 rfl (by decide) (by decide) wE26 wX26 (k_castore_n dL_octane_11 (by decide) (k_iconst (1) dL_octane_12 (by decide) (k_iret dL_octane_13 rfl (rfl) h9)))

set_option maxRecDepth 100000 in
set_option maxHeartbeats 4000000 in
theorem m_L_extreme {X : kn_X} {σ : kn_S} {τ : kn_T} {z : kn_Z} {c n : Nat} {Q : kn_Q} {x0 x1 x2 : Int32} (hK : kn_isK z) (ho : 133 < z.1 ∧ z.2 133 = .inr (.inl (1, 1))) (hE : ∀ Q6 : kn_Q, (∀ o σ9 τ9 z9, kn_LR Q z [("java/lang/IndexOutOfBoundsException", 1)] o σ9 τ9 z9 → Q6 o σ9 τ9 z9) → kn_Ev X MX6_extreme [.ref 0, .int x0, .int x1, .int x2] σ τ z c n Q6) : kn_Ev X ML_extreme [.ref 0, .int x0, .int x1, .int x2, .ref 133] σ τ z c n Q := by
  refine kn_entryH (by decide +kernel) rfl (Nat.le_of_ble_eq_true rfl) ?_
  show kn_Go X ML_extreme 0 [(0, .ref 0), (1, .int x0), (2, .int x1), (3, .int x2), (4, .ref 133)] [] _ _ _ _ _ _
  refine k_aload dL_extreme_0 rfl ?_
  refine k_iconst (0) dL_extreme_2 (by decide) ?_
  refine k_aload_n 0 dL_extreme_3 rfl rfl ?_
  refine k_iload_n 1 dL_extreme_4 rfl rfl ?_
  refine k_iload_n 2 dL_extreme_5 rfl rfl ?_
  refine k_iload_n 3 dL_extreme_6 rfl rfl ?_
  refine k_invV (As := [_, _, _]) dL_extreme_7 mm_X6_extreme wL_L_55 ⟨by decide, by decide⟩ hK.1.1 hK.1.2 rfl rfl (Nat.le_of_ble_eq_true rfl) (Nat.le_refl c) (Nat.le_refl n) (hE _ ?_)
  intro o σ9 τ9 z9 h9
  obtain ⟨rfl, h9⟩ := h9
  rcases o with (_ | v) | E
  · exact absurd h9 id
  · cases v with
    | int v =>
      refine ⟨rfl, ?_⟩
      refine k_i2l dL_extreme_10 ?_
      refine k_lastore dL_extreme_11 ho.1 ho.2 (vp_in_nI (n := 0) (by decide) (by decide)) ?_
      refine k_goto 19 dL_extreme_12 (by decide) ?_
      refine k_iconst (0) dL_extreme_19 (by decide) ?_
      refine k_iret dL_extreme_20 rfl (rfl) ?_
      exact h9
    | _ => exact absurd h9 id
  · obtain ⟨k, hk, h9⟩ := h9
    refine ⟨rfl, ?_⟩
    simp only [List.mem_cons, List.not_mem_nil, or_false, Prod.mk.injEq] at hk
    obtain ⟨rfl, rfl⟩ := hk
    exact k_catch0 rfl (by decide) (by decide) wE26 wX26 (k_castore dL_extreme_15 (by decide) (k_iconst (1) dL_extreme_17 (by decide) (k_iret dL_extreme_18 rfl (rfl) h9)))

set_option maxRecDepth 100000 in
set_option maxHeartbeats 4000000 in
theorem m_L_event {X : kn_X} {σ : kn_S} {τ : kn_T} {z : kn_Z} {c n : Nat} {Q : kn_Q} {x0 x1 : Int32} (hK : kn_isK z) (ho : 133 < z.1 ∧ z.2 133 = .inr (.inl (1, 1))) (hE : ∀ Q6 : kn_Q, (∀ o σ9 τ9 z9, kn_LR Q z [("java/lang/IndexOutOfBoundsException", 1), ("java/lang/IllegalArgumentException", 2)] o σ9 τ9 z9 → Q6 o σ9 τ9 z9) → kn_Ev X MX6_event [.ref 0, .int x0, .int x1] σ τ z c n Q6) : kn_Ev X ML_event [.ref 0, .int x0, .int x1, .ref 133] σ τ z c n Q := by
  refine kn_entryH (by decide +kernel) rfl (Nat.le_of_ble_eq_true rfl) ?_
  show kn_Go X ML_event 0 [(0, .ref 0), (1, .int x0), (2, .int x1), (3, .ref 133)] [] _ _ _ _ _ _
  refine k_aload_n 3 dL_event_0 rfl rfl ?_
  refine k_iconst (0) dL_event_1 (by decide) ?_
  refine k_aload_n 0 dL_event_2 rfl rfl ?_
  refine k_iload_n 1 dL_event_3 rfl rfl ?_
  refine k_iload_n 2 dL_event_4 rfl rfl ?_
  refine k_invV (As := [_, _]) dL_event_5 mm_X6_event wL_L_59 ⟨by decide, by decide⟩ hK.1.1 hK.1.2 rfl rfl (Nat.le_of_ble_eq_true rfl) (Nat.le_refl c) (Nat.le_refl n) (hE _ ?_)
  intro o σ9 τ9 z9 h9
  obtain ⟨rfl, h9⟩ := h9
  rcases o with (_ | v) | E
  · exact absurd h9 id
  · cases v with
    | int v =>
      refine ⟨rfl, ?_⟩
      refine k_i2l dL_event_8 ?_
      refine k_lastore dL_event_9 ho.1 ho.2 (vp_in_nI (n := 0) (by decide) (by decide)) ?_
      refine k_goto 21 dL_event_10 (by decide) ?_
      refine k_iconst (0) dL_event_21 (by decide) ?_
      refine k_iret dL_event_22 rfl (rfl) ?_
      exact h9
    | _ => exact absurd h9 id
  · obtain ⟨k, hk, h9⟩ := h9
    refine ⟨rfl, ?_⟩
    simp only [List.mem_cons, List.not_mem_nil, or_false, Prod.mk.injEq] at hk
    rcases hk with ⟨rfl, rfl⟩ | ⟨rfl, rfl⟩
    · exact k_catch0 rfl (by decide) (by decide) wE26 wX26 (k_castore dL_event_13 (by decide) (k_iconst (1) dL_event_15 (by decide) (k_iret dL_event_16 rfl (rfl) h9)))
    · exact k_catch1 rfl (by decide) wE26 (by decide) (by decide) (by decide) wE13 wX13 (k_castore dL_event_17 (by decide) (k_iconst (2) dL_event_19 (by decide) (k_iret dL_event_20 rfl (rfl) h9)))

set_option maxRecDepth 100000 in
set_option maxHeartbeats 4000000 in
theorem m_L_eventsOf {X : kn_X} {σ : kn_S} {τ : kn_T} {z : kn_Z} {c n : Nat} {Q : kn_Q} {x0 : Int32} (hK : kn_isK z) (ho : 133 < z.1 ∧ z.2 133 = .inr (.inl (1, 1))) (hE : ∀ Q6 : kn_Q, (∀ o σ9 τ9 z9, kn_LR Q z [("java/lang/IllegalArgumentException", 1)] o σ9 τ9 z9 → Q6 o σ9 τ9 z9) → kn_Ev X MX6_eventsOf [.ref 0, .int x0] σ τ z c n Q6) : kn_Ev X ML_eventsOf [.ref 0, .int x0, .ref 133] σ τ z c n Q := by
  refine kn_entryH (by decide +kernel) rfl (Nat.le_of_ble_eq_true rfl) ?_
  show kn_Go X ML_eventsOf 0 [(0, .ref 0), (1, .int x0), (2, .ref 133)] [] _ _ _ _ _ _
  refine k_aload_n 2 dL_eventsOf_0 rfl rfl ?_
  refine k_iconst (0) dL_eventsOf_1 (by decide) ?_
  refine k_aload_n 0 dL_eventsOf_2 rfl rfl ?_
  refine k_iload_n 1 dL_eventsOf_3 rfl rfl ?_
  refine k_invV (As := [_]) dL_eventsOf_4 mm_X6_eventsOf wL_L_62 ⟨by decide, by decide⟩ hK.1.1 hK.1.2 rfl rfl (Nat.le_of_ble_eq_true rfl) (Nat.le_refl c) (Nat.le_refl n) (hE _ ?_)
  intro o σ9 τ9 z9 h9
  obtain ⟨rfl, h9⟩ := h9
  rcases o with (_ | v) | E
  · exact absurd h9 id
  · cases v with
    | int v =>
      refine ⟨rfl, ?_⟩
      refine k_i2l dL_eventsOf_7 ?_
      refine k_lastore dL_eventsOf_8 ho.1 ho.2 (vp_in_nI (n := 0) (by decide) (by decide)) ?_
      refine k_goto 15 dL_eventsOf_9 (by decide) ?_
      refine k_iconst (0) dL_eventsOf_15 (by decide) ?_
      refine k_iret dL_eventsOf_16 rfl (rfl) ?_
      exact h9
    | _ => exact absurd h9 id
  · obtain ⟨k, hk, h9⟩ := h9
    refine ⟨rfl, ?_⟩
    simp only [List.mem_cons, List.not_mem_nil, or_false, Prod.mk.injEq] at hk
    obtain ⟨rfl, rfl⟩ := hk
    exact k_catch0 rfl (by decide) (by decide) wE13 wX13 (k_castore_n dL_eventsOf_12 (by decide) (k_iconst (1) dL_eventsOf_13 (by decide) (k_iret dL_eventsOf_14 rfl (rfl) h9)))

set_option maxRecDepth 100000 in
set_option maxHeartbeats 4000000 in
theorem m_L_limit {X : kn_X} {σ : kn_S} {τ : kn_T} {z : kn_Z} {c n : Nat} {Q : kn_Q} {x0 x1 x2 x3 : Int32} (hK : kn_isK z) (ho : 133 < z.1 ∧ z.2 133 = .inr (.inl (1, 1))) (hE : ∀ Q6 : kn_Q, (∀ o σ9 τ9 z9, kn_LR Q z [("java/lang/IndexOutOfBoundsException", 1), ("java/lang/IllegalArgumentException", 2)] o σ9 τ9 z9 → Q6 o σ9 τ9 z9) → kn_Ev X MX6_limit [.ref 0, .int x0, .int x1, .int x2, .int x3] σ τ z c n Q6) : kn_Ev X ML_limit [.ref 0, .int x0, .int x1, .int x2, .int x3, .ref 133] σ τ z c n Q := by
  refine kn_entryH (by decide +kernel) rfl (Nat.le_of_ble_eq_true rfl) ?_
  show kn_Go X ML_limit 0 [(0, .ref 0), (1, .int x0), (2, .int x1), (3, .int x2), (4, .int x3), (5, .ref 133)] [] _ _ _ _ _ _
  refine k_aload dL_limit_0 rfl ?_
  refine k_iconst (0) dL_limit_2 (by decide) ?_
  refine k_aload_n 0 dL_limit_3 rfl rfl ?_
  refine k_iload_n 1 dL_limit_4 rfl rfl ?_
  refine k_iload_n 2 dL_limit_5 rfl rfl ?_
  refine k_iload_n 3 dL_limit_6 rfl rfl ?_
  refine k_iload dL_limit_7 rfl ?_
  refine k_invV (As := [_, _, _, _]) dL_limit_9 mm_X6_limit wL_L_65 ⟨by decide, by decide⟩ hK.1.1 hK.1.2 rfl rfl (Nat.le_of_ble_eq_true rfl) (Nat.le_refl c) (Nat.le_refl n) (hE _ ?_)
  intro o σ9 τ9 z9 h9
  obtain ⟨rfl, h9⟩ := h9
  rcases o with (_ | v) | E
  · exact absurd h9 id
  · cases v with
    | int v =>
      refine ⟨rfl, ?_⟩
      refine k_i2l dL_limit_12 ?_
      refine k_lastore dL_limit_13 ho.1 ho.2 (vp_in_nI (n := 0) (by decide) (by decide)) ?_
      refine k_goto 25 dL_limit_14 (by decide) ?_
      refine k_iconst (0) dL_limit_25 (by decide) ?_
      refine k_iret dL_limit_26 rfl (rfl) ?_
      exact h9
    | _ => exact absurd h9 id
  · obtain ⟨k, hk, h9⟩ := h9
    refine ⟨rfl, ?_⟩
    simp only [List.mem_cons, List.not_mem_nil, or_false, Prod.mk.injEq] at hk
    rcases hk with ⟨rfl, rfl⟩ | ⟨rfl, rfl⟩
    · exact k_catch0 rfl (by decide) (by decide) wE26 wX26 (k_castore dL_limit_17 (by decide) (k_iconst (1) dL_limit_19 (by decide) (k_iret dL_limit_20 rfl (rfl) h9)))
    · exact k_catch1 rfl (by decide) wE26 (by decide) (by decide) (by decide) wE13 wX13 (k_castore dL_limit_21 (by decide) (k_iconst (2) dL_limit_23 (by decide) (k_iret dL_limit_24 rfl (rfl) h9)))

set_option maxRecDepth 100000 in
set_option maxHeartbeats 4000000 in
theorem m_L_quietAfter {X : kn_X} {σ : kn_S} {τ : kn_T} {z : kn_Z} {c n : Nat} {Q : kn_Q} {x0 x1 x2 : Int32} (hK : kn_isK z) (ho : 133 < z.1 ∧ z.2 133 = .inr (.inl (1, 1))) (hE : ∀ Q6 : kn_Q, (∀ o σ9 τ9 z9, kn_LR Q z [("java/lang/IllegalArgumentException", 1)] o σ9 τ9 z9 → Q6 o σ9 τ9 z9) → kn_Ev X MX6_quietAfter [.ref 0, .int x0, .int x1, .int x2] σ τ z c n Q6) : kn_Ev X ML_quietAfter [.ref 0, .int x0, .int x1, .int x2, .ref 133] σ τ z c n Q := by
  refine kn_entryH (by decide +kernel) rfl (Nat.le_of_ble_eq_true rfl) ?_
  show kn_Go X ML_quietAfter 0 [(0, .ref 0), (1, .int x0), (2, .int x1), (3, .int x2), (4, .ref 133)] [] _ _ _ _ _ _
  refine k_aload dL_quietAfter_0 rfl ?_
  refine k_iconst (0) dL_quietAfter_2 (by decide) ?_
  refine k_aload_n 0 dL_quietAfter_3 rfl rfl ?_
  refine k_iload_n 1 dL_quietAfter_4 rfl rfl ?_
  refine k_iload_n 2 dL_quietAfter_5 rfl rfl ?_
  refine k_iload_n 3 dL_quietAfter_6 rfl rfl ?_
  refine k_invV (As := [_, _, _]) dL_quietAfter_7 mm_X6_quietAfter wL_L_68 ⟨by decide, by decide⟩ hK.1.1 hK.1.2 rfl rfl (Nat.le_of_ble_eq_true rfl) (Nat.le_refl c) (Nat.le_refl n) (hE _ ?_)
  intro o σ9 τ9 z9 h9
  obtain ⟨rfl, h9⟩ := h9
  rcases o with (_ | v) | E
  · exact absurd h9 id
  · cases v with
    | int v =>
      refine ⟨rfl, ?_⟩
      refine k_i2l dL_quietAfter_10 ?_
      refine k_lastore dL_quietAfter_11 ho.1 ho.2 (vp_in_nI (n := 0) (by decide) (by decide)) ?_
      refine k_goto 19 dL_quietAfter_12 (by decide) ?_
      refine k_iconst (0) dL_quietAfter_19 (by decide) ?_
      refine k_iret dL_quietAfter_20 rfl (rfl) ?_
      exact h9
    | _ => exact absurd h9 id
  · obtain ⟨k, hk, h9⟩ := h9
    refine ⟨rfl, ?_⟩
    simp only [List.mem_cons, List.not_mem_nil, or_false, Prod.mk.injEq] at hk
    obtain ⟨rfl, rfl⟩ := hk
    exact k_catch0 rfl (by decide) (by decide) wE13 wX13 (k_castore dL_quietAfter_15 (by decide) (k_iconst (1) dL_quietAfter_17 (by decide) (k_iret dL_quietAfter_18 rfl (rfl) h9)))

set_option maxRecDepth 100000 in
set_option maxHeartbeats 4000000 in
theorem m_L_lowestOctane {X : kn_X} {σ : kn_S} {τ : kn_T} {z : kn_Z} {c n : Nat} {Q : kn_Q} {x0 x1 x2 : Int32} (hK : kn_isK z) (ho : 133 < z.1 ∧ z.2 133 = .inr (.inl (1, 1))) (hE : ∀ Q6 : kn_Q, (∀ o σ9 τ9 z9, kn_LR Q z [("java/lang/IllegalArgumentException", 1)] o σ9 τ9 z9 → Q6 o σ9 τ9 z9) → kn_Ev X MX6_lowestOctane [.ref 0, .int x0, .int x1, .int x2] σ τ z c n Q6) : kn_Ev X ML_lowestOctane [.ref 0, .int x0, .int x1, .int x2, .ref 133] σ τ z c n Q := by
  refine kn_entryH (by decide +kernel) rfl (Nat.le_of_ble_eq_true rfl) ?_
  show kn_Go X ML_lowestOctane 0 [(0, .ref 0), (1, .int x0), (2, .int x1), (3, .int x2), (4, .ref 133)] [] _ _ _ _ _ _
  refine k_aload dL_lowestOctane_0 rfl ?_
  refine k_iconst (0) dL_lowestOctane_2 (by decide) ?_
  refine k_aload_n 0 dL_lowestOctane_3 rfl rfl ?_
  refine k_iload_n 1 dL_lowestOctane_4 rfl rfl ?_
  refine k_iload_n 2 dL_lowestOctane_5 rfl rfl ?_
  refine k_iload_n 3 dL_lowestOctane_6 rfl rfl ?_
  refine k_invV (As := [_, _, _]) dL_lowestOctane_7 mm_X6_lowestOctane wL_L_71 ⟨by decide, by decide⟩ hK.1.1 hK.1.2 rfl rfl (Nat.le_of_ble_eq_true rfl) (Nat.le_refl c) (Nat.le_refl n) (hE _ ?_)
  intro o σ9 τ9 z9 h9
  obtain ⟨rfl, h9⟩ := h9
  rcases o with (_ | v) | E
  · exact absurd h9 id
  · cases v with
    | int v =>
      refine ⟨rfl, ?_⟩
      refine k_i2l dL_lowestOctane_10 ?_
      refine k_lastore dL_lowestOctane_11 ho.1 ho.2 (vp_in_nI (n := 0) (by decide) (by decide)) ?_
      refine k_goto 19 dL_lowestOctane_12 (by decide) ?_
      refine k_iconst (0) dL_lowestOctane_19 (by decide) ?_
      refine k_iret dL_lowestOctane_20 rfl (rfl) ?_
      exact h9
    | _ => exact absurd h9 id
  · obtain ⟨k, hk, h9⟩ := h9
    refine ⟨rfl, ?_⟩
    simp only [List.mem_cons, List.not_mem_nil, or_false, Prod.mk.injEq] at hk
    obtain ⟨rfl, rfl⟩ := hk
    exact k_catch0 rfl (by decide) (by decide) wE13 wX13 (k_castore dL_lowestOctane_15 (by decide) (k_iconst (1) dL_lowestOctane_17 (by decide) (k_iret dL_lowestOctane_18 rfl (rfl) h9)))

set_option maxRecDepth 100000 in
set_option maxHeartbeats 4000000 in
theorem m_L_append {X : kn_X} {σ : kn_S} {τ : kn_T} {z : kn_Z} {c n : Nat} {Q : kn_Q} {x0 : Int32} (hK : kn_isK z) (ho : 133 < z.1 ∧ z.2 133 = .inr (.inl (1, 1))) (hE : ∀ Q6 : kn_Q, (∀ o σ9 τ9 z9, kn_LR Q z [("java/lang/IllegalArgumentException", 1), ("java/lang/IllegalStateException", 2)] o σ9 τ9 z9 → Q6 o σ9 τ9 z9) → kn_Ev X MX6_append [.ref 0, .int x0] σ τ z c n Q6) : kn_Ev X ML_append [.ref 0, .int x0, .ref 133] σ τ z c n Q := by
  refine kn_entryH (by decide +kernel) rfl (Nat.le_of_ble_eq_true rfl) ?_
  show kn_Go X ML_append 0 [(0, .ref 0), (1, .int x0), (2, .ref 133)] [] _ _ _ _ _ _
  refine k_aload_n 2 dL_append_0 rfl rfl ?_
  refine k_iconst (0) dL_append_1 (by decide) ?_
  refine k_aload_n 0 dL_append_2 rfl rfl ?_
  refine k_iload_n 1 dL_append_3 rfl rfl ?_
  refine k_invV (As := [_]) dL_append_4 mm_X6_append wL_L_74 ⟨by decide, by decide⟩ hK.1.1 hK.1.2 rfl rfl (Nat.le_of_ble_eq_true rfl) (Nat.le_refl c) (Nat.le_refl n) (hE _ ?_)
  intro o σ9 τ9 z9 h9
  obtain ⟨rfl, h9⟩ := h9
  rcases o with (_ | v) | E
  · exact absurd h9 id
  · cases v with
    | int v =>
      refine ⟨rfl, ?_⟩
      refine k_i2l dL_append_7 ?_
      refine k_lastore dL_append_8 ho.1 ho.2 (vp_in_nI (n := 0) (by decide) (by decide)) ?_
      refine k_goto 18 dL_append_9 (by decide) ?_
      refine k_iconst (0) dL_append_18 (by decide) ?_
      refine k_iret dL_append_19 rfl (rfl) ?_
      exact h9
    | _ => exact absurd h9 id
  · obtain ⟨k, hk, h9⟩ := h9
    refine ⟨rfl, ?_⟩
    simp only [List.mem_cons, List.not_mem_nil, or_false, Prod.mk.injEq] at hk
    rcases hk with ⟨rfl, rfl⟩ | ⟨rfl, rfl⟩
    · exact k_catch0 rfl (by decide) (by decide) wE13 wX13 (k_castore_n dL_append_12 (by decide) (k_iconst (1) dL_append_13 (by decide) (k_iret dL_append_14 rfl (rfl) h9)))
    · exact k_catch1 rfl (by decide) wE13 (by decide) (by decide) (by decide) wE77 wX77 (k_castore_n dL_append_15 (by decide) (k_iconst (2) dL_append_16 (by decide) (k_iret dL_append_17 rfl (rfl) h9)))

set_option maxRecDepth 100000 in
set_option maxHeartbeats 4000000 in
theorem m_L_undo {X : kn_X} {σ : kn_S} {τ : kn_T} {z : kn_Z} {c n : Nat} {Q : kn_Q} (hK : kn_isK z) (ho : 133 < z.1 ∧ z.2 133 = .inr (.inl (1, 1))) (hE : ∀ Q6 : kn_Q, (∀ o σ9 τ9 z9, kn_LR Q z [("java/lang/IllegalStateException", 1)] o σ9 τ9 z9 → Q6 o σ9 τ9 z9) → kn_Ev X MX6_undo [.ref 0] σ τ z c n Q6) : kn_Ev X ML_undo [.ref 0, .ref 133] σ τ z c n Q := by
  refine kn_entryH (by decide +kernel) rfl (Nat.le_of_ble_eq_true rfl) ?_
  show kn_Go X ML_undo 0 [(0, .ref 0), (1, .ref 133)] [] _ _ _ _ _ _
  refine k_aload_n 1 dL_undo_0 rfl rfl ?_
  refine k_iconst (0) dL_undo_1 (by decide) ?_
  refine k_aload_n 0 dL_undo_2 rfl rfl ?_
  refine k_invV (As := []) dL_undo_3 mm_X6_undo wL_L_79 ⟨by decide, by decide⟩ hK.1.1 hK.1.2 rfl rfl (Nat.le_of_ble_eq_true rfl) (Nat.le_refl c) (Nat.le_refl n) (hE _ ?_)
  intro o σ9 τ9 z9 h9
  obtain ⟨rfl, h9⟩ := h9
  rcases o with (_ | v) | E
  · exact absurd h9 id
  · cases v with
    | int v =>
      refine ⟨rfl, ?_⟩
      refine k_i2l dL_undo_6 ?_
      refine k_lastore dL_undo_7 ho.1 ho.2 (vp_in_nI (n := 0) (by decide) (by decide)) ?_
      refine k_goto 14 dL_undo_8 (by decide) ?_
      refine k_iconst (0) dL_undo_14 (by decide) ?_
      refine k_iret dL_undo_15 rfl (rfl) ?_
      exact h9
    | _ => exact absurd h9 id
  · obtain ⟨k, hk, h9⟩ := h9
    refine ⟨rfl, ?_⟩
    simp only [List.mem_cons, List.not_mem_nil, or_false, Prod.mk.injEq] at hk
    obtain ⟨rfl, rfl⟩ := hk
    exact k_catch0 rfl (by decide) (by decide) wE77 wX77 (k_castore_n dL_undo_11 (by decide) (k_iconst (1) dL_undo_12 (by decide) (k_iret dL_undo_13 rfl (rfl) h9)))
