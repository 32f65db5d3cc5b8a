-- the law's own calls: what a handler answers
def kn_Ca (X : kn_X) (M : kn_M) (pc : Nat) (lv : kn_L) (σ : kn_S) (τ : kn_T) (z : kn_Z) (c n : Nat) (Q : kn_Q) : Prop :=
  ∀ (D : va_G) (cs : Nat → ClassId) (z0 : Nat) (ar : Nat → Nat) (p : Program) (l : Launch) (e : Env) (R : Room) (s : State) (m : MethodId) (args : Array Value) (below : List Frame) (meth : Method) (cd : Code) (n0 : Nat) (a0 : Nat → Nat) (mc ms : Nat) (QF : State → Prop),
    kn_Cx X M D cs z0 ar p l e R s m args below meth cd n0 a0 mc ms QF Q →
    ∀ (ad : Nat → Nat) (H : Heap) (locs : List Loc) (ls : Array Slot) (cells slots : Nat), kn_At M lv σ τ z c n D cs z0 ar s n0 a0 mc ms ad H locs ls cells slots →
      ∀ q : Addr, W p l e R s m args below meth cd H locs cells slots QF (F0 m pc ls [.ref q])
theorem k_catch0 {X : kn_X} {M : kn_M} {lv : kn_L} {σ : kn_S} {τ : kn_T} {z : kn_Z} {c n : Nat} {Q : kn_Q} {pc : Nat} {E : String} {h0 : Nat × Nat × Nat × Nat} {hr : List (Nat × Nat × Nat × Nat)} (hM : M.2.2.2.2.1 = h0 :: hr) (hcov : covers ⟨h0.1, h0.2.1, h0.2.2.1, h0.2.2.2⟩ pc = true) (hct : h0.2.2.2 ≠ 0) (hL : Cond.classLink M.1.cls h0.2.2.2 E ∈ kn_ws) (hcast : Cond.castable E E ∈ kn_bad)
    (kk : kn_Ca X M h0.2.2.1 lv σ τ z c n Q) : kn_Th X M pc lv E σ τ z c n Q := by
  intro D cs z0 ar p l e R s m args below meth cd n0 a0 mc ms QF Cx ad H locs ls cells slots hA q ce rest hq hv hcl
  have hts := Cx.1.1.2.2.2.2
  have htab := Cx.1.2.1.2.2.2.1
  rw [hM] at htab
  exact vx_catch Cx.1.1.2.2.2.1 [] ⟨h0.1, h0.2.1, h0.2.2.1, h0.2.2.2⟩ (tableOf hr) htab (fun _ h => absurd h List.not_mem_nil) hcov hct (hts _ hL) (kn_bad_use (List.mem_filter.mp hcast).2 (Cx.1.2.2.2.2.2.2.2.2.1 _ hcast)) hq hv hcl (kk D cs z0 ar p l e R s m args below meth cd n0 a0 mc ms QF Cx ad H locs ls cells slots hA q)
theorem k_catch1 {X : kn_X} {M : kn_M} {lv : kn_L} {σ : kn_S} {τ : kn_T} {z : kn_Z} {c n : Nat} {Q : kn_Q} {pc : Nat} {E E0 : String} {h0 h1 : Nat × Nat × Nat × Nat} {hr : List (Nat × Nat × Nat × Nat)} (hM : M.2.2.2.2.1 = h0 :: h1 :: hr) (hct0 : h0.2.2.2 ≠ 0) (hL0 : Cond.classLink M.1.cls h0.2.2.2 E0 ∈ kn_ws) (hno : (E, E0) = ("java/lang/IllegalArgumentException", "java/lang/IndexOutOfBoundsException") ∨ (E, E0) = ("java/lang/IllegalStateException", "java/lang/IllegalArgumentException"))
    (hcov : covers ⟨h1.1, h1.2.1, h1.2.2.1, h1.2.2.2⟩ pc = true) (hct : h1.2.2.2 ≠ 0) (hL : Cond.classLink M.1.cls h1.2.2.2 E ∈ kn_ws) (hcast : Cond.castable E E ∈ kn_bad)
    (kk : kn_Ca X M h1.2.2.1 lv σ τ z c n Q) : kn_Th X M pc lv E σ τ z c n Q := by
  intro D cs z0 ar p l e R s m args below meth cd n0 a0 mc ms QF Cx ad H locs ls cells slots hA q ce rest hq hv hcl
  have hts := Cx.1.1.2.2.2.2
  have htab := Cx.1.2.1.2.2.2.1
  rw [hM] at htab
  have hnc : va_Nc E E0 s := by
    have hp := Cx.1.2.2.2.2.2.2.2.2.2.1
    rcases hno with h | h
    · cases h; exact hp.1
    · cases h; exact hp.2
  exact vx_catch Cx.1.1.2.2.2.1 [⟨h0.1, h0.2.1, h0.2.2.1, h0.2.2.2⟩] ⟨h1.1, h1.2.1, h1.2.2.1, h1.2.2.2⟩ (tableOf hr) htab (fun x h => by
      obtain rfl := List.mem_singleton.mp h
      exact Or.inr ⟨hct0, E0, hts _ hL0, hnc⟩) hcov hct (hts _ hL) (kn_bad_use (List.mem_filter.mp hcast).2 (Cx.1.2.2.2.2.2.2.2.2.1 _ hcast)) hq hv hcl (kk D cs z0 ar p l e R s m args below meth cd n0 a0 mc ms QF Cx ad H locs ls cells slots hA q)
theorem k_castore_n {X : kn_X} {M : kn_M} {lv : kn_L} {σ : kn_S} {τ : kn_T} {z : kn_Z} {c n : Nat} {Q : kn_Q} {pc : Nat} {k9 : Fin 4} (hd : decode M.2.1 pc = .ok (.astore_n k9, 1)) (hn : (k9 : Nat) < M.2.2.1) (k : kn_Go X M (pc + 1) [] [] σ τ z c n Q) : kn_Ca X M pc lv σ τ z c n Q := by
  intro D cs z0 ar p l e R s m args below meth cd n0 a0 mc ms QF Cx ad H locs ls cells slots hA q
  refine lv_astore_n Cx.1.1.1 Cx.1.1.2.1 hd rfl hA.2.2.2.2 hn rfl (fun ls' hl' => ?_)
  exact k D cs z0 ar p l e R s m args below meth cd n0 a0 mc ms QF Cx ad H locs ls' cells slots ⟨hA.1, hA.2.1, hA.2.2.1, hA.2.2.2.1, ⟨hl'.1, hl'.2.1, fun x hx => absurd hx List.not_mem_nil⟩⟩
theorem k_castore {X : kn_X} {M : kn_M} {lv : kn_L} {σ : kn_S} {τ : kn_T} {z : kn_Z} {c n : Nat} {Q : kn_Q} {pc i : Nat} (hd : decode M.2.1 pc = .ok (.astore i, 2)) (hn : i < M.2.2.1) (k : kn_Go X M (pc + 2) [] [] σ τ z c n Q) : kn_Ca X M pc lv σ τ z c n Q := by
  intro D cs z0 ar p l e R s m args below meth cd n0 a0 mc ms QF Cx ad H locs ls cells slots hA q
  refine lv_astore Cx.1.1.1 Cx.1.1.2.1 hd hA.2.2.2.2 hn rfl (fun ls' hl' => ?_)
  exact k D cs z0 ar p l e R s m args below meth cd n0 a0 mc ms QF Cx ad H locs ls' cells slots ⟨hA.1, hA.2.1, hA.2.2.1, hA.2.2.2.1, ⟨hl'.1, hl'.2.1, fun x hx => absurd hx List.not_mem_nil⟩⟩
theorem wE15 : Cond.classLink RL 15 "java/lang/IllegalArgumentException" ∈ kn_ws := kn_in 250 (by decide +kernel) (by decide +kernel)
theorem wE29 : Cond.classLink RL 29 "java/lang/IndexOutOfBoundsException" ∈ kn_ws := kn_in 350 (by decide +kernel) (by decide +kernel)
theorem wE83 : Cond.classLink RL 83 "java/lang/IllegalStateException" ∈ kn_ws := kn_in 500 (by decide +kernel) (by decide +kernel)
theorem wX15 : Cond.castable "java/lang/IllegalArgumentException" "java/lang/IllegalArgumentException" ∈ kn_bad := kn_inb 263 (by decide +kernel) (by decide +kernel)
theorem wX29 : Cond.castable "java/lang/IndexOutOfBoundsException" "java/lang/IndexOutOfBoundsException" ∈ kn_bad := kn_inb 363 (by decide +kernel) (by decide +kernel)
theorem wX83 : Cond.castable "java/lang/IllegalStateException" "java/lang/IllegalStateException" ∈ kn_bad := kn_inb 514 (by decide +kernel) (by decide +kernel)
/-- what a call of the class gives to the one that hands it on: a number, or the number for one of these exceptions -/
def kn_LR (Q : kn_Q) (z : kn_Z) (Es : List (String × Int32)) : kn_Q := fun o σ τ z' => z' = z ∧ match o with
  | .inl (some (.int v)) => Q (.inl (some (.int v))) σ τ z
  | .inr E => ∃ k, (E, k) ∈ Es ∧ Q (.inl (some (.int k))) σ τ z
  | _ => False
def kn_LD (Q : kn_Q) (z : kn_Z) (Es : List (String × UInt64)) : kn_Q := fun o σ τ z' => z' = z ∧ match o with
  | .inl (some (.double v)) => Q (.inl (some (.double v))) σ τ z
  | .inr E => ∃ k, (E, k) ∈ Es ∧ Q (.inl (some (.double k))) σ τ z
  | _ => False
section KNW
variable {X : kn_X} {M : kn_M} {pc : Nat} {lv : kn_L} {σ : kn_S} {τ : kn_T} {z : kn_Z} {c n : Nat} {Q : kn_Q}
theorem k_ishr {x y : Int32} {st : List Value} (hd : decode M.2.1 pc = .ok (.ishr, 1)) (k : kn_Go X M (pc + 1) lv (.int (x >>> (y &&& 31)) :: st) σ τ z c n Q) : kn_Go X M pc lv (.int y :: .int x :: st) σ τ z c n Q := by
  intro D cs z0 ar p l e R s m args below meth cd n0 a0 mc ms QF Cx ad H locs ls cells slots hA
  exact lv_ishr Cx.1.1.1 Cx.1.1.2.1 hd (k D cs z0 ar p l e R s m args below meth cd n0 a0 mc ms QF Cx ad H locs ls cells slots hA)
theorem k_dload_n {k9 : Fin 4} {x : UInt64} {st : List Value} (i : Nat) (hd : decode M.2.1 pc = .ok (.dload_n k9, 1)) (hi : (k9 : Nat) = i) (hg : kn_get lv i = some (.double x)) (k : kn_Go X M (pc + 1) lv (.double x :: st) σ τ z c n Q) : kn_Go X M pc lv st σ τ z c n Q := by
  intro D cs z0 ar p l e R s m args below meth cd n0 a0 mc ms QF Cx ad H locs ls cells slots hA
  exact lv_dload_n Cx.1.1.1 Cx.1.1.2.1 hd hi (kn_loc hA.2.2.2.2 hg) (k D cs z0 ar p l e R s m args below meth cd n0 a0 mc ms QF Cx ad H locs ls cells slots hA)
theorem k_dstore_n {k9 : Fin 4} {x : UInt64} {st : List Value} (i : Nat) {lv' : kn_L} (hd : decode M.2.1 pc = .ok (.dstore_n k9, 1)) (hi : (k9 : Nat) = i) (hn : i + 1 < M.2.2.1) (hl : kn_put2 lv i (.double x) = lv') (k : kn_Go X M (pc + 1) lv' st σ τ z c n Q) : kn_Go X M pc lv (.double x :: st) σ τ z c n Q := by
  intro D cs z0 ar p l e R s m args below meth cd n0 a0 mc ms QF Cx ad H locs ls cells slots hA
  subst hl
  exact lv_dstore_n Cx.1.1.1 Cx.1.1.2.1 hd hi hA.2.2.2.2 hn (kn_put2_lc ad ar lv i (.double x)) (fun ls' hl' => k D cs z0 ar p l e R s m args below meth cd n0 a0 mc ms QF Cx ad H locs ls' cells slots ⟨hA.1, hA.2.1, hA.2.2.1, hA.2.2.2.1, hl'⟩)
theorem k_lstore {i : Nat} {x : Int64} {st : List Value} {lv' : kn_L} (hd : decode M.2.1 pc = .ok (.lstore i, 2)) (hn : i + 1 < M.2.2.1) (hl : kn_put2 lv i (.long x) = lv') (k : kn_Go X M (pc + 2) lv' st σ τ z c n Q) : kn_Go X M pc lv (.long x :: st) σ τ z c n Q := by
  intro D cs z0 ar p l e R s m args below meth cd n0 a0 mc ms QF Cx ad H locs ls cells slots hA
  subst hl
  exact lv_lstore Cx.1.1.1 Cx.1.1.2.1 hd hA.2.2.2.2 hn (kn_put2_lc ad ar lv i (.long x)) (fun ls' hl' => k D cs z0 ar p l e R s m args below meth cd n0 a0 mc ms QF Cx ad H locs ls' cells slots ⟨hA.1, hA.2.1, hA.2.2.1, hA.2.2.2.1, hl'⟩)
/-- a call, with the room behind it named -/
theorem k_invS2 {c1 n1 : Nat} (c' n' : Nat) {M2 : kn_M} {k idx : Nat} {As rest st : List Value} (hd : decode M.2.1 pc = .ok (.invokestatic idx, 3)) (hm : kn_mS M2 k) (hL : Cond.methodLink M.1.cls idx M2.1 ∈ kn_ws) (hf : kn_fit M M2) (hst : st = As.reverse ++ rest) (hn : As.length = k) (hrs : (rest.map fun v => v.category).sum ≤ 8) (h1 : c1 + c' ≤ c) (h2 : n1 + n' ≤ n)
    (hE : kn_Ev X M2 As σ τ z c1 n1 (kn_K X M pc lv rest z.1 c' n' Q)) : kn_Go X M pc lv st σ τ z c n Q :=
  k_room h1 h2 (k_invS hd hm hL hf hst hn hrs (Nat.le_add_right _ _) (Nat.le_add_right _ _) (by rw [Nat.add_sub_cancel_left, Nat.add_sub_cancel_left]; exact hE))
theorem k_invSH2 {c1 n1 : Nat} (c' n' : Nat) {M2 : kn_M} {k idx : Nat} {As rest st : List Value} (hd : decode M.2.1 pc = .ok (.invokestatic idx, 3)) (hm : kn_mSH M2 k) (hL : Cond.methodLink M.1.cls idx M2.1 ∈ kn_ws) (hf : kn_fit M M2) (hst : st = As.reverse ++ rest) (hn : As.length = k) (hrs : (rest.map fun v => v.category).sum ≤ 8) (h1 : c1 + c' ≤ c) (h2 : n1 + n' ≤ n)
    (hE : kn_Ev X M2 As σ τ z c1 n1 (kn_K X M pc lv rest z.1 c' n' Q)) : kn_Go X M pc lv st σ τ z c n Q :=
  k_room h1 h2 (k_invSH hd hm hL hf hst hn hrs (Nat.le_add_right _ _) (Nat.le_add_right _ _) (by rw [Nat.add_sub_cancel_left, Nat.add_sub_cancel_left]; exact hE))
end KNW
set_option maxRecDepth 100000 in
set_option maxHeartbeats 4000000 in
theorem m_L_begin {X : kn_X} {σ : kn_S} {τ : kn_T} {z : kn_Z} {c n : Nat} {Q : kn_Q} {x0 : Int32} (hK : kn_isK z) (hE : ∀ Q6 : kn_Q, (∀ o σ9 τ9 z9, kn_LR Q z [("java/lang/IllegalArgumentException", (-5000001))] o σ9 τ9 z9 → Q6 o σ9 τ9 z9) → kn_Ev X MX6_begin [.ref 0, .int x0] σ τ z c n Q6) : kn_Ev X ML_begin [.ref 0, .int x0] σ τ z c n Q := by
  refine kn_entryH (by decide +kernel) rfl (Nat.le_of_ble_eq_true rfl) ?_
  show kn_Go X ML_begin 0 [(0, .ref 0), (1, .int x0)] [] _ _ _ _ _ _
  refine k_aload_n 0 dL_begin_0 rfl rfl ?_
  refine k_iload_n 1 dL_begin_1 rfl rfl ?_
  refine k_invV (As := [_]) dL_begin_2 mm_X6_begin wL_L_9 ⟨by decide, by decide⟩ hK.1.1 hK.1.2 rfl rfl (Nat.le_of_ble_eq_true rfl) (Nat.le_refl c) (Nat.le_refl n) (hE _ ?_)
  intro o σ9 τ9 z9 h9
  obtain ⟨rfl, h9⟩ := h9
  rcases o with (_ | v) | E
  · exact absurd h9 id
  · cases v with
    | int v =>
      refine ⟨rfl, ?_⟩
      refine k_istore_n 2 (lv' := [(2, _), (0, _), (1, _)]) dL_begin_5 rfl (by decide) rfl ?_
      refine k_goto 13 dL_begin_6 (by decide) ?_
      refine k_iload_n 2 dL_begin_13 rfl rfl ?_
      refine k_iret dL_begin_14 rfl (rfl) ?_
      exact h9
    | _ => exact absurd h9 id
  · obtain ⟨k, hk, h9⟩ := h9
    refine ⟨rfl, ?_⟩
    simp only [List.mem_cons, List.not_mem_nil, or_false, Prod.mk.injEq] at hk
    obtain ⟨rfl, rfl⟩ := hk
    exact k_catch0 rfl (by decide) (by decide) wE15 wX15 (k_castore_n dL_begin_9 (by decide) (k_ldc dL_begin_10 wK_L_17 (k_iret dL_begin_12 rfl (rfl) h9)))

set_option maxRecDepth 100000 in
set_option maxHeartbeats 4000000 in
theorem m_L_set {X : kn_X} {σ : kn_S} {τ : kn_T} {z : kn_Z} {c n : Nat} {Q : kn_Q} {x0 x1 : Int32} (hK : kn_isK z) (hE : ∀ Q6 : kn_Q, (∀ o σ9 τ9 z9, kn_LR Q z [("java/lang/IllegalArgumentException", (-5000001))] o σ9 τ9 z9 → Q6 o σ9 τ9 z9) → kn_Ev X MX6_set [.ref 0, .int x0, .int x1] σ τ z c n Q6) : kn_Ev X ML_set [.ref 0, .int x0, .int x1] σ τ z c n Q := by
  refine kn_entryH (by decide +kernel) rfl (Nat.le_of_ble_eq_true rfl) ?_
  show kn_Go X ML_set 0 [(0, .ref 0), (1, .int x0), (2, .int x1)] [] _ _ _ _ _ _
  refine k_aload_n 0 dL_set_0 rfl rfl ?_
  refine k_iload_n 1 dL_set_1 rfl rfl ?_
  refine k_iload_n 2 dL_set_2 rfl rfl ?_
  refine k_invV (As := [_, _]) dL_set_3 mm_X6_set wL_L_18 ⟨by decide, by decide⟩ hK.1.1 hK.1.2 rfl rfl (Nat.le_of_ble_eq_true rfl) (Nat.le_refl c) (Nat.le_refl n) (hE _ ?_)
  intro o σ9 τ9 z9 h9
  obtain ⟨rfl, h9⟩ := h9
  rcases o with (_ | v) | E
  · exact absurd h9 id
  · cases v with
    | int v =>
      refine ⟨rfl, ?_⟩
      refine k_istore_n 3 (lv' := [(3, _), (0, _), (1, _), (2, _)]) dL_set_6 rfl (by decide) rfl ?_
      refine k_goto 15 dL_set_7 (by decide) ?_
      refine k_iload_n 3 dL_set_15 rfl rfl ?_
      refine k_iret dL_set_16 rfl (rfl) ?_
      exact h9
    | _ => exact absurd h9 id
  · obtain ⟨k, hk, h9⟩ := h9
    refine ⟨rfl, ?_⟩
    simp only [List.mem_cons, List.not_mem_nil, or_false, Prod.mk.injEq] at hk
    obtain ⟨rfl, rfl⟩ := hk
    exact k_catch0 rfl (by decide) (by decide) wE15 wX15 (k_castore dL_set_10 (by decide) (k_ldc dL_set_12 wK_L_17 (k_iret dL_set_14 rfl (rfl) h9)))

set_option maxRecDepth 100000 in
set_option maxHeartbeats 4000000 in
theorem m_L_value {X : kn_X} {σ : kn_S} {τ : kn_T} {z : kn_Z} {c n : Nat} {Q : kn_Q} {x0 : Int32} (hK : kn_isK z) (hE : ∀ Q6 : kn_Q, (∀ o σ9 τ9 z9, kn_LR Q z [("java/lang/IllegalArgumentException", (-5000001))] o σ9 τ9 z9 → Q6 o σ9 τ9 z9) → kn_Ev X MX6_value [.ref 0, .int x0] σ τ z c n Q6) : kn_Ev X ML_value [.ref 0, .int x0] σ τ z c n Q := by
  refine kn_entryH (by decide +kernel) rfl (Nat.le_of_ble_eq_true rfl) ?_
  show kn_Go X ML_value 0 [(0, .ref 0), (1, .int x0)] [] _ _ _ _ _ _
  refine k_aload_n 0 dL_value_0 rfl rfl ?_
  refine k_iload_n 1 dL_value_1 rfl rfl ?_
  refine k_invV (As := [_]) dL_value_2 mm_X6_value wL_L_22 ⟨by decide, by decide⟩ hK.1.1 hK.1.2 rfl rfl (Nat.le_of_ble_eq_true rfl) (Nat.le_refl c) (Nat.le_refl n) (hE _ ?_)
  intro o σ9 τ9 z9 h9
  obtain ⟨rfl, h9⟩ := h9
  rcases o with (_ | v) | E
  · exact absurd h9 id
  · cases v with
    | int v =>
      refine ⟨rfl, ?_⟩
      refine k_istore_n 2 (lv' := [(2, _), (0, _), (1, _)]) dL_value_5 rfl (by decide) rfl ?_
      refine k_goto 13 dL_value_6 (by decide) ?_
      refine k_iload_n 2 dL_value_13 rfl rfl ?_
      refine k_iret dL_value_14 rfl (rfl) ?_
      exact h9
    | _ => exact absurd h9 id
  · obtain ⟨k, hk, h9⟩ := h9
    refine ⟨rfl, ?_⟩
    simp only [List.mem_cons, List.not_mem_nil, or_false, Prod.mk.injEq] at hk
    obtain ⟨rfl, rfl⟩ := hk
    exact k_catch0 rfl (by decide) (by decide) wE15 wX15 (k_castore_n dL_value_9 (by decide) (k_ldc dL_value_10 wK_L_17 (k_iret dL_value_12 rfl (rfl) h9)))

set_option maxRecDepth 100000 in
set_option maxHeartbeats 4000000 in
theorem m_L_teach {X : kn_X} {σ : kn_S} {τ : kn_T} {z : kn_Z} {c n : Nat} {Q : kn_Q} {x0 x1 x2 : Int32} (hK : kn_isK z) (hE : ∀ Q6 : kn_Q, (∀ o σ9 τ9 z9, kn_LR Q z [("java/lang/IndexOutOfBoundsException", (-5000003)), ("java/lang/IllegalArgumentException", (-5000001))] o σ9 τ9 z9 → Q6 o σ9 τ9 z9) → kn_Ev X MX6_teach [.ref 0, .int x0, .int x1, .int x2] σ τ z c n Q6) : kn_Ev X ML_teach [.ref 0, .int x0, .int x1, .int x2] σ τ z c n Q := by
  refine kn_entryH (by decide +kernel) rfl (Nat.le_of_ble_eq_true rfl) ?_
  show kn_Go X ML_teach 0 [(0, .ref 0), (1, .int x0), (2, .int x1), (3, .int x2)] [] _ _ _ _ _ _
  refine k_aload_n 0 dL_teach_0 rfl rfl ?_
  refine k_iload_n 1 dL_teach_1 rfl rfl ?_
  refine k_iload_n 2 dL_teach_2 rfl rfl ?_
  refine k_iload_n 3 dL_teach_3 rfl rfl ?_
  refine k_invV (As := [_, _, _]) dL_teach_4 mm_X6_teach wL_L_25 ⟨by decide, by decide⟩ hK.1.1 hK.1.2 rfl rfl (Nat.le_of_ble_eq_true rfl) (Nat.le_refl c) (Nat.le_refl n) (hE _ ?_)
  intro o σ9 τ9 z9 h9
  obtain ⟨rfl, h9⟩ := h9
  rcases o with (_ | v) | E
  · exact absurd h9 id
  · cases v with
    | int v =>
      refine ⟨rfl, ?_⟩
      refine k_istore (lv' := [(4, _), (0, _), (1, _), (2, _), (3, _)]) dL_teach_7 (by decide) rfl ?_
      refine k_goto 22 dL_teach_9 (by decide) ?_
      refine k_iload dL_teach_22 rfl ?_
      refine k_iret dL_teach_24 rfl (rfl) ?_
      exact h9
    | _ => exact absurd h9 id
  · obtain ⟨k, hk, h9⟩ := h9
    refine ⟨rfl, ?_⟩
    simp only [List.mem_cons, List.not_mem_nil, or_false, Prod.mk.injEq] at hk
    rcases hk with ⟨rfl, rfl⟩ | ⟨rfl, rfl⟩
    · exact k_catch0 rfl (by decide) (by decide) wE29 wX29 (k_castore dL_teach_12 (by decide) (k_ldc dL_teach_14 wK_L_31 (k_iret dL_teach_16 rfl (rfl) h9)))
    · exact k_catch1 rfl (by decide) wE29 (by decide) (by decide) (by decide) wE15 wX15 (k_castore dL_teach_17 (by decide) (k_ldc dL_teach_19 wK_L_17 (k_iret dL_teach_21 rfl (rfl) h9)))

set_option maxRecDepth 100000 in
set_option maxHeartbeats 4000000 in
theorem m_L_seed {X : kn_X} {σ : kn_S} {τ : kn_T} {z : kn_Z} {c n : Nat} {Q : kn_Q} {x0 : Int32} (hK : kn_isK z) (hE : ∀ Q6 : kn_Q, (∀ o σ9 τ9 z9, kn_LR Q z [("java/lang/IllegalArgumentException", (-5000001))] o σ9 τ9 z9 → Q6 o σ9 τ9 z9) → kn_Ev X MX6_seed [.ref 0, .int x0] σ τ z c n Q6) : kn_Ev X ML_seed [.ref 0, .int x0] σ τ z c n Q := by
  refine kn_entryH (by decide +kernel) rfl (Nat.le_of_ble_eq_true rfl) ?_
  show kn_Go X ML_seed 0 [(0, .ref 0), (1, .int x0)] [] _ _ _ _ _ _
  refine k_aload_n 0 dL_seed_0 rfl rfl ?_
  refine k_iload_n 1 dL_seed_1 rfl rfl ?_
  refine k_invV (As := [_]) dL_seed_2 mm_X6_seed wL_L_32 ⟨by decide, by decide⟩ hK.1.1 hK.1.2 rfl rfl (Nat.le_of_ble_eq_true rfl) (Nat.le_refl c) (Nat.le_refl n) (hE _ ?_)
  intro o σ9 τ9 z9 h9
  obtain ⟨rfl, h9⟩ := h9
  rcases o with (_ | v) | E
  · exact absurd h9 id
  · cases v with
    | int v =>
      refine ⟨rfl, ?_⟩
      refine k_istore_n 2 (lv' := [(2, _), (0, _), (1, _)]) dL_seed_5 rfl (by decide) rfl ?_
      refine k_goto 13 dL_seed_6 (by decide) ?_
      refine k_iload_n 2 dL_seed_13 rfl rfl ?_
      refine k_iret dL_seed_14 rfl (rfl) ?_
      exact h9
    | _ => exact absurd h9 id
  · obtain ⟨k, hk, h9⟩ := h9
    refine ⟨rfl, ?_⟩
    simp only [List.mem_cons, List.not_mem_nil, or_false, Prod.mk.injEq] at hk
    obtain ⟨rfl, rfl⟩ := hk
    exact k_catch0 rfl (by decide) (by decide) wE15 wX15 (k_castore_n dL_seed_9 (by decide) (k_ldc dL_seed_10 wK_L_17 (k_iret dL_seed_12 rfl (rfl) h9)))

set_option maxRecDepth 100000 in
set_option maxHeartbeats 4000000 in
theorem m_L_fire {X : kn_X} {σ : kn_S} {τ : kn_T} {z : kn_Z} {c n : Nat} {Q : kn_Q} {x0 x1 x2 : Int32} (hK : kn_isK z) (hE : ∀ Q6 : kn_Q, (∀ o σ9 τ9 z9, kn_LR Q z [("java/lang/IllegalArgumentException", (-5000001))] o σ9 τ9 z9 → Q6 o σ9 τ9 z9) → kn_Ev X MX6_fire [.ref 0, .int x0, .int x1, .int x2] σ τ z c n Q6) : kn_Ev X ML_fire [.ref 0, .int x0, .int x1, .int x2] σ τ z c n Q := by
  refine kn_entryH (by decide +kernel) rfl (Nat.le_of_ble_eq_true rfl) ?_
  show kn_Go X ML_fire 0 [(0, .ref 0), (1, .int x0), (2, .int x1), (3, .int x2)] [] _ _ _ _ _ _
  refine k_aload_n 0 dL_fire_0 rfl rfl ?_
  refine k_iload_n 1 dL_fire_1 rfl rfl ?_
  refine k_iload_n 2 dL_fire_2 rfl rfl ?_
  refine k_iload_n 3 dL_fire_3 rfl rfl ?_
  refine k_invV (As := [_, _, _]) dL_fire_4 mm_X6_fire wL_L_35 ⟨by decide, by decide⟩ hK.1.1 hK.1.2 rfl rfl (Nat.le_of_ble_eq_true rfl) (Nat.le_refl c) (Nat.le_refl n) (hE _ ?_)
  intro o σ9 τ9 z9 h9
  obtain ⟨rfl, h9⟩ := h9
  rcases o with (_ | v) | E
  · exact absurd h9 id
  · cases v with
    | int v =>
      refine ⟨rfl, ?_⟩
      refine k_istore (lv' := [(4, _), (0, _), (1, _), (2, _), (3, _)]) dL_fire_7 (by decide) rfl ?_
      refine k_goto 17 dL_fire_9 (by decide) ?_
      refine k_iload dL_fire_17 rfl ?_
      refine k_iret dL_fire_19 rfl (rfl) ?_
      exact h9
    | _ => exact absurd h9 id
  · obtain ⟨k, hk, h9⟩ := h9
    refine ⟨rfl, ?_⟩
    simp only [List.mem_cons, List.not_mem_nil, or_false, Prod.mk.injEq] at hk
    obtain ⟨rfl, rfl⟩ := hk
    exact k_catch0 rfl (by decide) (by decide) wE15 wX15 (k_castore dL_fire_12 (by decide) (k_ldc dL_fire_14 wK_L_17 (k_iret dL_fire_16 rfl (rfl) h9)))

set_option maxRecDepth 100000 in
set_option maxHeartbeats 4000000 in
theorem m_L_drive {X : kn_X} {σ : kn_S} {τ : kn_T} {z : kn_Z} {c n : Nat} {Q : kn_Q} {x0 x1 x2 x3 : Int32} (hK : kn_isK z) (hE : ∀ Q6 : kn_Q, (∀ o σ9 τ9 z9, kn_LR Q z [("java/lang/IllegalArgumentException", (-5000001))] o σ9 τ9 z9 → Q6 o σ9 τ9 z9) → kn_Ev X MX6_drive [.ref 0, .int x0, .int x1, .int x2, .int x3] σ τ z c n Q6) : kn_Ev X ML_drive [.ref 0, .int x0, .int x1, .int x2, .int x3] σ τ z c n Q := by
  refine kn_entryH (by decide +kernel) rfl (Nat.le_of_ble_eq_true rfl) ?_
  show kn_Go X ML_drive 0 [(0, .ref 0), (1, .int x0), (2, .int x1), (3, .int x2), (4, .int x3)] [] _ _ _ _ _ _
  refine k_aload_n 0 dL_drive_0 rfl rfl ?_
  refine k_iload_n 1 dL_drive_1 rfl rfl ?_
  refine k_iload_n 2 dL_drive_2 rfl rfl ?_
  refine k_iload_n 3 dL_drive_3 rfl rfl ?_
  refine k_iload dL_drive_4 rfl ?_
  refine k_invV (As := [_, _, _, _]) dL_drive_6 mm_X6_drive wL_L_38 ⟨by decide, by decide⟩ hK.1.1 hK.1.2 rfl rfl (Nat.le_of_ble_eq_true rfl) (Nat.le_refl c) (Nat.le_refl n) (hE _ ?_)
  intro o σ9 τ9 z9 h9
  obtain ⟨rfl, h9⟩ := h9
  rcases o with (_ | v) | E
  · exact absurd h9 id
  · cases v with
    | int v =>
      refine ⟨rfl, ?_⟩
      refine k_istore (lv' := [(5, _), (0, _), (1, _), (2, _), (3, _), (4, _)]) dL_drive_9 (by decide) rfl ?_
      refine k_goto 19 dL_drive_11 (by decide) ?_
      refine k_iload dL_drive_19 rfl ?_
      refine k_iret dL_drive_21 rfl (rfl) ?_
      exact h9
    | _ => exact absurd h9 id
  · obtain ⟨k, hk, h9⟩ := h9
    refine ⟨rfl, ?_⟩
    simp only [List.mem_cons, List.not_mem_nil, or_false, Prod.mk.injEq] at hk
    obtain ⟨rfl, rfl⟩ := hk
    exact k_catch0 rfl (by decide) (by decide) wE15 wX15 (k_castore dL_drive_14 (by decide) (k_ldc dL_drive_16 wK_L_17 (k_iret dL_drive_18 rfl (rfl) h9)))

set_option maxRecDepth 100000 in
set_option maxHeartbeats 4000000 in
theorem m_L_cylinder {X : kn_X} {σ : kn_S} {τ : kn_T} {z : kn_Z} {c n : Nat} {Q : kn_Q} {x0 x1 : Int32} (hK : kn_isK z) (hE : ∀ Q6 : kn_Q, (∀ o σ9 τ9 z9, kn_LR Q z [("java/lang/IndexOutOfBoundsException", (-5000003)), ("java/lang/IllegalArgumentException", (-5000001))] o σ9 τ9 z9 → Q6 o σ9 τ9 z9) → kn_Ev X MX6_cylinder [.ref 0, .int x0, .int x1] σ τ z c n Q6) : kn_Ev X ML_cylinder [.ref 0, .int x0, .int x1] σ τ z c n Q := by
  refine kn_entryH (by decide +kernel) rfl (Nat.le_of_ble_eq_true rfl) ?_
  show kn_Go X ML_cylinder 0 [(0, .ref 0), (1, .int x0), (2, .int x1)] [] _ _ _ _ _ _
  refine k_aload_n 0 dL_cylinder_0 rfl rfl ?_
  refine k_iload_n 1 dL_cylinder_1 rfl rfl ?_
  refine k_iload_n 2 dL_cylinder_2 rfl rfl ?_
  refine k_invV (As := [_, _]) dL_cylinder_3 mm_X6_cylinder wL_L_42 ⟨by decide, by decide⟩ hK.1.1 hK.1.2 rfl rfl (Nat.le_of_ble_eq_true rfl) (Nat.le_refl c) (Nat.le_refl n) (hE _ ?_)
  intro o σ9 τ9 z9 h9
  obtain ⟨rfl, h9⟩ := h9
  rcases o with (_ | v) | E
  · exact absurd h9 id
  · cases v with
    | int v =>
      refine ⟨rfl, ?_⟩
      refine k_istore_n 3 (lv' := [(3, _), (0, _), (1, _), (2, _)]) dL_cylinder_6 rfl (by decide) rfl ?_
      refine k_goto 20 dL_cylinder_7 (by decide) ?_
      refine k_iload_n 3 dL_cylinder_20 rfl rfl ?_
      refine k_iret dL_cylinder_21 rfl (rfl) ?_
      exact h9
    | _ => exact absurd h9 id
  · obtain ⟨k, hk, h9⟩ := h9
    refine ⟨rfl, ?_⟩
    simp only [List.mem_cons, List.not_mem_nil, or_false, Prod.mk.injEq] at hk
    rcases hk with ⟨rfl, rfl⟩ | ⟨rfl, rfl⟩
    · exact k_catch0 rfl (by decide) (by decide) wE29 wX29 (k_castore dL_cylinder_10 (by decide) (k_ldc dL_cylinder_12 wK_L_31 (k_iret dL_cylinder_14 rfl (rfl) h9)))
    · exact k_catch1 rfl (by decide) wE29 (by decide) (by decide) (by decide) wE15 wX15 (k_castore dL_cylinder_15 (by decide) (k_ldc dL_cylinder_17 wK_L_17 (k_iret dL_cylinder_19 rfl (rfl) h9)))

set_option maxRecDepth 100000 in
set_option maxHeartbeats 4000000 in
theorem m_L_learned {X : kn_X} {σ : kn_S} {τ : kn_T} {z : kn_Z} {c n : Nat} {Q : kn_Q} {x0 x1 : Int32} (hK : kn_isK z) (hE : ∀ Q6 : kn_Q, (∀ o σ9 τ9 z9, kn_LR Q z [("java/lang/IndexOutOfBoundsException", (-5000003))] o σ9 τ9 z9 → Q6 o σ9 τ9 z9) → kn_Ev X MX6_learned [.ref 0, .int x0, .int x1] σ τ z c n Q6) : kn_Ev X ML_learned [.ref 0, .int x0, .int x1] σ τ z c n Q := by
  refine kn_entryH (by decide +kernel) rfl (Nat.le_of_ble_eq_true rfl) ?_
  show kn_Go X ML_learned 0 [(0, .ref 0), (1, .int x0), (2, .int x1)] [] _ _ _ _ _ _
  refine k_aload_n 0 dL_learned_0 rfl rfl ?_
  refine k_iload_n 1 dL_learned_1 rfl rfl ?_
  refine k_iload_n 2 dL_learned_2 rfl rfl ?_
  refine k_invV (As := [_, _]) dL_learned_3 mm_X6_learned wL_L_45 ⟨by decide, by decide⟩ hK.1.1 hK.1.2 rfl rfl (Nat.le_of_ble_eq_true rfl) (Nat.le_refl c) (Nat.le_refl n) (hE _ ?_)
  intro o σ9 τ9 z9 h9
  obtain ⟨rfl, h9⟩ := h9
  rcases o with (_ | v) | E
  · exact absurd h9 id
  · cases v with
    | int v =>
      refine ⟨rfl, ?_⟩
      refine k_istore_n 3 (lv' := [(3, _), (0, _), (1, _), (2, _)]) dL_learned_6 rfl (by decide) rfl ?_
      refine k_goto 15 dL_learned_7 (by decide) ?_
      refine k_iload_n 3 dL_learned_15 rfl rfl ?_
      refine k_iret dL_learned_16 rfl (rfl) ?_
      exact h9
    | _ => exact absurd h9 id
  · obtain ⟨k, hk, h9⟩ := h9
    refine ⟨rfl, ?_⟩
    simp only [List.mem_cons, List.not_mem_nil, or_false, Prod.mk.injEq] at hk
    obtain ⟨rfl, rfl⟩ := hk
    exact k_catch0 rfl (by decide) (by decide) wE29 wX29 (k_castore dL_learned_10 (by decide) (k_ldc dL_learned_12 wK_L_31 (k_iret dL_learned_14 rfl (rfl) h9)))

set_option maxRecDepth 100000 in
set_option maxHeartbeats 4000000 in
theorem m_L_angle {X : kn_X} {σ : kn_S} {τ : kn_T} {z : kn_Z} {c n : Nat} {Q : kn_Q} {x0 x1 x2 x3 : Int32} (hK : kn_isK z) (hE : ∀ Q6 : kn_Q, (∀ o σ9 τ9 z9, kn_LR Q z [("java/lang/IndexOutOfBoundsException", (-5000003)), ("java/lang/IllegalArgumentException", (-5000001))] o σ9 τ9 z9 → Q6 o σ9 τ9 z9) → kn_Ev X MX6_angle [.ref 0, .int x0, .int x1, .int x2, .int x3] σ τ z c n Q6) : kn_Ev X ML_angle [.ref 0, .int x0, .int x1, .int x2, .int x3] σ τ z c n Q := by
  refine kn_entryH (by decide +kernel) rfl (Nat.le_of_ble_eq_true rfl) ?_
  show kn_Go X ML_angle 0 [(0, .ref 0), (1, .int x0), (2, .int x1), (3, .int x2), (4, .int x3)] [] _ _ _ _ _ _
  refine k_aload_n 0 dL_angle_0 rfl rfl ?_
  refine k_iload_n 1 dL_angle_1 rfl rfl ?_
  refine k_iload_n 2 dL_angle_2 rfl rfl ?_
  refine k_iload_n 3 dL_angle_3 rfl rfl ?_
  refine k_iload dL_angle_4 rfl ?_
  refine k_invV (As := [_, _, _, _]) dL_angle_6 mm_X6_angle wL_L_48 ⟨by decide, by decide⟩ hK.1.1 hK.1.2 rfl rfl (Nat.le_of_ble_eq_true rfl) (Nat.le_refl c) (Nat.le_refl n) (hE _ ?_)
  intro o σ9 τ9 z9 h9
  obtain ⟨rfl, h9⟩ := h9
  rcases o with (_ | v) | E
  · exact absurd h9 id
  · cases v with
    | int v =>
      refine ⟨rfl, ?_⟩
      refine k_istore (lv' := [(5, _), (0, _), (1, _), (2, _), (3, _), (4, _)]) dL_angle_9 (by decide) rfl ?_
      refine k_goto 24 dL_angle_11 (by decide) ?_
      refine k_iload dL_angle_24 rfl ?_
      refine k_iret dL_angle_26 rfl (rfl) ?_
      exact h9
    | _ => exact absurd h9 id
  · obtain ⟨k, hk, h9⟩ := h9
    refine ⟨rfl, ?_⟩
    simp only [List.mem_cons, List.not_mem_nil, or_false, Prod.mk.injEq] at hk
    rcases hk with ⟨rfl, rfl⟩ | ⟨rfl, rfl⟩
    · exact k_catch0 rfl (by decide) (by decide) wE29 wX29 (k_castore dL_angle_14 (by decide) (k_ldc dL_angle_16 wK_L_31 (k_iret dL_angle_18 rfl (rfl) h9)))
    · exact k_catch1 rfl (by decide) wE29 (by decide) (by decide) (by decide) wE15 wX15 (k_castore dL_angle_19 (by decide) (k_ldc dL_angle_21 wK_L_17 (k_iret dL_angle_23 rfl (rfl) h9)))

set_option maxRecDepth 100000 in
set_option maxHeartbeats 4000000 in
theorem m_L_status {X : kn_X} {σ : kn_S} {τ : kn_T} {z : kn_Z} {c n : Nat} {Q : kn_Q} {x0 : Int32} (hK : kn_isK z) (hE : ∀ Q6 : kn_Q, (∀ o σ9 τ9 z9, kn_LR Q z [("java/lang/IllegalArgumentException", (-5000001))] o σ9 τ9 z9 → Q6 o σ9 τ9 z9) → kn_Ev X MX6_status [.ref 0, .int x0] σ τ z c n Q6) : kn_Ev X ML_status [.ref 0, .int x0] σ τ z c n Q := by
  refine kn_entryH (by decide +kernel) rfl (Nat.le_of_ble_eq_true rfl) ?_
  show kn_Go X ML_status 0 [(0, .ref 0), (1, .int x0)] [] _ _ _ _ _ _
  refine k_aload_n 0 dL_status_0 rfl rfl ?_
  refine k_iload_n 1 dL_status_1 rfl rfl ?_
  refine k_invV (As := [_]) dL_status_2 mm_X6_status wL_L_52 ⟨by decide, by decide⟩ hK.1.1 hK.1.2 rfl rfl (Nat.le_of_ble_eq_true rfl) (Nat.le_refl c) (Nat.le_refl n) (hE _ ?_)
  intro o σ9 τ9 z9 h9
  obtain ⟨rfl, h9⟩ := h9
  rcases o with (_ | v) | E
  · exact absurd h9 id
  · cases v with
    | int v =>
      refine ⟨rfl, ?_⟩
      refine k_istore_n 2 (lv' := [(2, _), (0, _), (1, _)]) dL_status_5 rfl (by decide) rfl ?_
      refine k_goto 13 dL_status_6 (by decide) ?_
      refine k_iload_n 2 dL_status_13 rfl rfl ?_
      refine k_iret dL_status_14 rfl (rfl) ?_
      exact h9
    | _ => exact absurd h9 id
  · obtain ⟨k, hk, h9⟩ := h9
    refine ⟨rfl, ?_⟩
    simp only [List.mem_cons, List.not_mem_nil, or_false, Prod.mk.injEq] at hk
    obtain ⟨rfl, rfl⟩ := hk
    exact k_catch0 rfl (by decide) (by decide) wE15 wX15 (k_castore_n dL_status_9 (by decide) (k_ldc dL_status_10 wK_L_17 (k_iret dL_status_12 rfl (rfl) h9)))

set_option maxRecDepth 100000 in
set_option maxHeartbeats 4000000 in
theorem m_L_octane {X : kn_X} {σ : kn_S} {τ : kn_T} {z : kn_Z} {c n : Nat} {Q : kn_Q} {x0 : Int32} (hK : kn_isK z) (hE : ∀ Q6 : kn_Q, (∀ o σ9 τ9 z9, kn_LD Q z [("java/lang/IndexOutOfBoundsException", 13930498760170799104)] o σ9 τ9 z9 → Q6 o σ9 τ9 z9) → kn_Ev X MX6_octane [.ref 0, .int x0] σ τ z c n Q6) : kn_Ev X ML_octane [.ref 0, .int x0] σ τ z c n Q := by
  refine kn_entryH (by decide +kernel) rfl (Nat.le_of_ble_eq_true rfl) ?_
  show kn_Go X ML_octane 0 [(0, .ref 0), (1, .int x0)] [] _ _ _ _ _ _
  refine k_aload_n 0 dL_octane_0 rfl rfl ?_
  refine k_iload_n 1 dL_octane_1 rfl rfl ?_
  refine k_invV (As := [_]) dL_octane_2 mm_X6_octane wL_L_55 ⟨by decide, by decide⟩ hK.1.1 hK.1.2 rfl rfl (Nat.le_of_ble_eq_true rfl) (Nat.le_refl c) (Nat.le_refl n) (hE _ ?_)
  intro o σ9 τ9 z9 h9
  obtain ⟨rfl, h9⟩ := h9
  rcases o with (_ | v) | E
  · exact absurd h9 id
  · cases v with
    | double v =>
      refine ⟨rfl, ?_⟩
      refine k_dstore_n 2 (lv' := [(2, _), (0, _), (1, _)]) dL_octane_5 rfl (by decide) rfl ?_
      refine k_goto 15 dL_octane_6 (by decide) ?_
      refine k_dload_n 2 dL_octane_15 rfl rfl ?_
      refine k_dret dL_octane_16 rfl ?_
      exact h9
    | _ => exact absurd h9 id
  · obtain ⟨k, hk, h9⟩ := h9
    refine ⟨rfl, ?_⟩
    simp only [List.mem_cons, List.not_mem_nil, or_false, Prod.mk.injEq] at hk
    obtain ⟨rfl, rfl⟩ := hk
    exact k_catch0 rfl (by decide) (by decide) wE29 wX29 (k_castore dL_octane_9 (by decide) (k_ldc2d dL_octane_11 wK_L_59 (k_dret dL_octane_14 rfl h9)))

set_option maxRecDepth 100000 in
set_option maxHeartbeats 4000000 in
theorem m_L_extreme {X : kn_X} {σ : kn_S} {τ : kn_T} {z : kn_Z} {c n : Nat} {Q : kn_Q} {x0 x1 x2 : Int32} (hK : kn_isK z) (hE : ∀ Q6 : kn_Q, (∀ o σ9 τ9 z9, kn_LR Q z [("java/lang/IndexOutOfBoundsException", (-5000003))] o σ9 τ9 z9 → Q6 o σ9 τ9 z9) → kn_Ev X MX6_extreme [.ref 0, .int x0, .int x1, .int x2] σ τ z c n Q6) : kn_Ev X ML_extreme [.ref 0, .int x0, .int x1, .int x2] σ τ z c n Q := by
  refine kn_entryH (by decide +kernel) rfl (Nat.le_of_ble_eq_true rfl) ?_
  show kn_Go X ML_extreme 0 [(0, .ref 0), (1, .int x0), (2, .int x1), (3, .int x2)] [] _ _ _ _ _ _
  refine k_aload_n 0 dL_extreme_0 rfl rfl ?_
  refine k_iload_n 1 dL_extreme_1 rfl rfl ?_
  refine k_iload_n 2 dL_extreme_2 rfl rfl ?_
  refine k_iload_n 3 dL_extreme_3 rfl rfl ?_
  refine k_invV (As := [_, _, _]) dL_extreme_4 mm_X6_extreme wL_L_61 ⟨by decide, by decide⟩ hK.1.1 hK.1.2 rfl rfl (Nat.le_of_ble_eq_true rfl) (Nat.le_refl c) (Nat.le_refl n) (hE _ ?_)
  intro o σ9 τ9 z9 h9
  obtain ⟨rfl, h9⟩ := h9
  rcases o with (_ | v) | E
  · exact absurd h9 id
  · cases v with
    | int v =>
      refine ⟨rfl, ?_⟩
      refine k_istore (lv' := [(4, _), (0, _), (1, _), (2, _), (3, _)]) dL_extreme_7 (by decide) rfl ?_
      refine k_goto 17 dL_extreme_9 (by decide) ?_
      refine k_iload dL_extreme_17 rfl ?_
      refine k_iret dL_extreme_19 rfl (rfl) ?_
      exact h9
    | _ => exact absurd h9 id
  · obtain ⟨k, hk, h9⟩ := h9
    refine ⟨rfl, ?_⟩
    simp only [List.mem_cons, List.not_mem_nil, or_false, Prod.mk.injEq] at hk
    obtain ⟨rfl, rfl⟩ := hk
    exact k_catch0 rfl (by decide) (by decide) wE29 wX29 (k_castore dL_extreme_12 (by decide) (k_ldc dL_extreme_14 wK_L_31 (k_iret dL_extreme_16 rfl (rfl) h9)))

set_option maxRecDepth 100000 in
set_option maxHeartbeats 4000000 in
theorem m_L_event {X : kn_X} {σ : kn_S} {τ : kn_T} {z : kn_Z} {c n : Nat} {Q : kn_Q} {x0 x1 : Int32} (hK : kn_isK z) (hE : ∀ Q6 : kn_Q, (∀ o σ9 τ9 z9, kn_LR Q z [("java/lang/IndexOutOfBoundsException", (-5000003)), ("java/lang/IllegalArgumentException", (-5000001))] o σ9 τ9 z9 → Q6 o σ9 τ9 z9) → kn_Ev X MX6_event [.ref 0, .int x0, .int x1] σ τ z c n Q6) : kn_Ev X ML_event [.ref 0, .int x0, .int x1] σ τ z c n Q := by
  refine kn_entryH (by decide +kernel) rfl (Nat.le_of_ble_eq_true rfl) ?_
  show kn_Go X ML_event 0 [(0, .ref 0), (1, .int x0), (2, .int x1)] [] _ _ _ _ _ _
  refine k_aload_n 0 dL_event_0 rfl rfl ?_
  refine k_iload_n 1 dL_event_1 rfl rfl ?_
  refine k_iload_n 2 dL_event_2 rfl rfl ?_
  refine k_invV (As := [_, _]) dL_event_3 mm_X6_event wL_L_65 ⟨by decide, by decide⟩ hK.1.1 hK.1.2 rfl rfl (Nat.le_of_ble_eq_true rfl) (Nat.le_refl c) (Nat.le_refl n) (hE _ ?_)
  intro o σ9 τ9 z9 h9
  obtain ⟨rfl, h9⟩ := h9
  rcases o with (_ | v) | E
  · exact absurd h9 id
  · cases v with
    | int v =>
      refine ⟨rfl, ?_⟩
      refine k_istore_n 3 (lv' := [(3, _), (0, _), (1, _), (2, _)]) dL_event_6 rfl (by decide) rfl ?_
      refine k_goto 20 dL_event_7 (by decide) ?_
      refine k_iload_n 3 dL_event_20 rfl rfl ?_
      refine k_iret dL_event_21 rfl (rfl) ?_
      exact h9
    | _ => exact absurd h9 id
  · obtain ⟨k, hk, h9⟩ := h9
    refine ⟨rfl, ?_⟩
    simp only [List.mem_cons, List.not_mem_nil, or_false, Prod.mk.injEq] at hk
    rcases hk with ⟨rfl, rfl⟩ | ⟨rfl, rfl⟩
    · exact k_catch0 rfl (by decide) (by decide) wE29 wX29 (k_castore dL_event_10 (by decide) (k_ldc dL_event_12 wK_L_31 (k_iret dL_event_14 rfl (rfl) h9)))
    · exact k_catch1 rfl (by decide) wE29 (by decide) (by decide) (by decide) wE15 wX15 (k_castore dL_event_15 (by decide) (k_ldc dL_event_17 wK_L_17 (k_iret dL_event_19 rfl (rfl) h9)))

set_option maxRecDepth 100000 in
set_option maxHeartbeats 4000000 in
theorem m_L_eventsOf {X : kn_X} {σ : kn_S} {τ : kn_T} {z : kn_Z} {c n : Nat} {Q : kn_Q} {x0 : Int32} (hK : kn_isK z) (hE : ∀ Q6 : kn_Q, (∀ o σ9 τ9 z9, kn_LR Q z [("java/lang/IllegalArgumentException", (-5000001))] o σ9 τ9 z9 → Q6 o σ9 τ9 z9) → kn_Ev X MX6_eventsOf [.ref 0, .int x0] σ τ z c n Q6) : kn_Ev X ML_eventsOf [.ref 0, .int x0] σ τ z c n Q := by
  refine kn_entryH (by decide +kernel) rfl (Nat.le_of_ble_eq_true rfl) ?_
  show kn_Go X ML_eventsOf 0 [(0, .ref 0), (1, .int x0)] [] _ _ _ _ _ _
  refine k_aload_n 0 dL_eventsOf_0 rfl rfl ?_
  refine k_iload_n 1 dL_eventsOf_1 rfl rfl ?_
  refine k_invV (As := [_]) dL_eventsOf_2 mm_X6_eventsOf wL_L_68 ⟨by decide, by decide⟩ hK.1.1 hK.1.2 rfl rfl (Nat.le_of_ble_eq_true rfl) (Nat.le_refl c) (Nat.le_refl n) (hE _ ?_)
  intro o σ9 τ9 z9 h9
  obtain ⟨rfl, h9⟩ := h9
  rcases o with (_ | v) | E
  · exact absurd h9 id
  · cases v with
    | int v =>
      refine ⟨rfl, ?_⟩
      refine k_istore_n 2 (lv' := [(2, _), (0, _), (1, _)]) dL_eventsOf_5 rfl (by decide) rfl ?_
      refine k_goto 13 dL_eventsOf_6 (by decide) ?_
      refine k_iload_n 2 dL_eventsOf_13 rfl rfl ?_
      refine k_iret dL_eventsOf_14 rfl (rfl) ?_
      exact h9
    | _ => exact absurd h9 id
  · obtain ⟨k, hk, h9⟩ := h9
    refine ⟨rfl, ?_⟩
    simp only [List.mem_cons, List.not_mem_nil, or_false, Prod.mk.injEq] at hk
    obtain ⟨rfl, rfl⟩ := hk
    exact k_catch0 rfl (by decide) (by decide) wE15 wX15 (k_castore_n dL_eventsOf_9 (by decide) (k_ldc dL_eventsOf_10 wK_L_17 (k_iret dL_eventsOf_12 rfl (rfl) h9)))

set_option maxRecDepth 100000 in
set_option maxHeartbeats 4000000 in
theorem m_L_limit {X : kn_X} {σ : kn_S} {τ : kn_T} {z : kn_Z} {c n : Nat} {Q : kn_Q} {x0 x1 x2 x3 : Int32} (hK : kn_isK z) (hE : ∀ Q6 : kn_Q, (∀ o σ9 τ9 z9, kn_LR Q z [("java/lang/IndexOutOfBoundsException", (-5000003)), ("java/lang/IllegalArgumentException", (-5000001))] o σ9 τ9 z9 → Q6 o σ9 τ9 z9) → kn_Ev X MX6_limit [.ref 0, .int x0, .int x1, .int x2, .int x3] σ τ z c n Q6) : kn_Ev X ML_limit [.ref 0, .int x0, .int x1, .int x2, .int x3] σ τ z c n Q := by
  refine kn_entryH (by decide +kernel) rfl (Nat.le_of_ble_eq_true rfl) ?_
  show kn_Go X ML_limit 0 [(0, .ref 0), (1, .int x0), (2, .int x1), (3, .int x2), (4, .int x3)] [] _ _ _ _ _ _
  refine k_aload_n 0 dL_limit_0 rfl rfl ?_
  refine k_iload_n 1 dL_limit_1 rfl rfl ?_
  refine k_iload_n 2 dL_limit_2 rfl rfl ?_
  refine k_iload_n 3 dL_limit_3 rfl rfl ?_
  refine k_iload dL_limit_4 rfl ?_
  refine k_invV (As := [_, _, _, _]) dL_limit_6 mm_X6_limit wL_L_71 ⟨by decide, by decide⟩ hK.1.1 hK.1.2 rfl rfl (Nat.le_of_ble_eq_true rfl) (Nat.le_refl c) (Nat.le_refl n) (hE _ ?_)
  intro o σ9 τ9 z9 h9
  obtain ⟨rfl, h9⟩ := h9
  rcases o with (_ | v) | E
  · exact absurd h9 id
  · cases v with
    | int v =>
      refine ⟨rfl, ?_⟩
      refine k_istore (lv' := [(5, _), (0, _), (1, _), (2, _), (3, _), (4, _)]) dL_limit_9 (by decide) rfl ?_
      refine k_goto 24 dL_limit_11 (by decide) ?_
      refine k_iload dL_limit_24 rfl ?_
      refine k_iret dL_limit_26 rfl (rfl) ?_
      exact h9
    | _ => exact absurd h9 id
  · obtain ⟨k, hk, h9⟩ := h9
    refine ⟨rfl, ?_⟩
    simp only [List.mem_cons, List.not_mem_nil, or_false, Prod.mk.injEq] at hk
    rcases hk with ⟨rfl, rfl⟩ | ⟨rfl, rfl⟩
    · exact k_catch0 rfl (by decide) (by decide) wE29 wX29 (k_castore dL_limit_14 (by decide) (k_ldc dL_limit_16 wK_L_31 (k_iret dL_limit_18 rfl (rfl) h9)))
    · exact k_catch1 rfl (by decide) wE29 (by decide) (by decide) (by decide) wE15 wX15 (k_castore dL_limit_19 (by decide) (k_ldc dL_limit_21 wK_L_17 (k_iret dL_limit_23 rfl (rfl) h9)))

set_option maxRecDepth 100000 in
set_option maxHeartbeats 4000000 in
theorem m_L_quietAfter {X : kn_X} {σ : kn_S} {τ : kn_T} {z : kn_Z} {c n : Nat} {Q : kn_Q} {x0 x1 x2 : Int32} (hK : kn_isK z) (hE : ∀ Q6 : kn_Q, (∀ o σ9 τ9 z9, kn_LR Q z [("java/lang/IllegalArgumentException", (-5000001))] o σ9 τ9 z9 → Q6 o σ9 τ9 z9) → kn_Ev X MX6_quietAfter [.ref 0, .int x0, .int x1, .int x2] σ τ z c n Q6) : kn_Ev X ML_quietAfter [.ref 0, .int x0, .int x1, .int x2] σ τ z c n Q := by
  refine kn_entryH (by decide +kernel) rfl (Nat.le_of_ble_eq_true rfl) ?_
  show kn_Go X ML_quietAfter 0 [(0, .ref 0), (1, .int x0), (2, .int x1), (3, .int x2)] [] _ _ _ _ _ _
  refine k_aload_n 0 dL_quietAfter_0 rfl rfl ?_
  refine k_iload_n 1 dL_quietAfter_1 rfl rfl ?_
  refine k_iload_n 2 dL_quietAfter_2 rfl rfl ?_
  refine k_iload_n 3 dL_quietAfter_3 rfl rfl ?_
  refine k_invV (As := [_, _, _]) dL_quietAfter_4 mm_X6_quietAfter wL_L_74 ⟨by decide, by decide⟩ hK.1.1 hK.1.2 rfl rfl (Nat.le_of_ble_eq_true rfl) (Nat.le_refl c) (Nat.le_refl n) (hE _ ?_)
  intro o σ9 τ9 z9 h9
  obtain ⟨rfl, h9⟩ := h9
  rcases o with (_ | v) | E
  · exact absurd h9 id
  · cases v with
    | int v =>
      refine ⟨rfl, ?_⟩
      refine k_istore (lv' := [(4, _), (0, _), (1, _), (2, _), (3, _)]) dL_quietAfter_7 (by decide) rfl ?_
      refine k_goto 17 dL_quietAfter_9 (by decide) ?_
      refine k_iload dL_quietAfter_17 rfl ?_
      refine k_iret dL_quietAfter_19 rfl (rfl) ?_
      exact h9
    | _ => exact absurd h9 id
  · obtain ⟨k, hk, h9⟩ := h9
    refine ⟨rfl, ?_⟩
    simp only [List.mem_cons, List.not_mem_nil, or_false, Prod.mk.injEq] at hk
    obtain ⟨rfl, rfl⟩ := hk
    exact k_catch0 rfl (by decide) (by decide) wE15 wX15 (k_castore dL_quietAfter_12 (by decide) (k_ldc dL_quietAfter_14 wK_L_17 (k_iret dL_quietAfter_16 rfl (rfl) h9)))

set_option maxRecDepth 100000 in
set_option maxHeartbeats 4000000 in
theorem m_L_lowestOctane {X : kn_X} {σ : kn_S} {τ : kn_T} {z : kn_Z} {c n : Nat} {Q : kn_Q} {x0 x1 x2 : Int32} (hK : kn_isK z) (hE : ∀ Q6 : kn_Q, (∀ o σ9 τ9 z9, kn_LR Q z [("java/lang/IllegalArgumentException", (-5000001))] o σ9 τ9 z9 → Q6 o σ9 τ9 z9) → kn_Ev X MX6_lowestOctane [.ref 0, .int x0, .int x1, .int x2] σ τ z c n Q6) : kn_Ev X ML_lowestOctane [.ref 0, .int x0, .int x1, .int x2] σ τ z c n Q := by
  refine kn_entryH (by decide +kernel) rfl (Nat.le_of_ble_eq_true rfl) ?_
  show kn_Go X ML_lowestOctane 0 [(0, .ref 0), (1, .int x0), (2, .int x1), (3, .int x2)] [] _ _ _ _ _ _
  refine k_aload_n 0 dL_lowestOctane_0 rfl rfl ?_
  refine k_iload_n 1 dL_lowestOctane_1 rfl rfl ?_
  refine k_iload_n 2 dL_lowestOctane_2 rfl rfl ?_
  refine k_iload_n 3 dL_lowestOctane_3 rfl rfl ?_
  refine k_invV (As := [_, _, _]) dL_lowestOctane_4 mm_X6_lowestOctane wL_L_77 ⟨by decide, by decide⟩ hK.1.1 hK.1.2 rfl rfl (Nat.le_of_ble_eq_true rfl) (Nat.le_refl c) (Nat.le_refl n) (hE _ ?_)
  intro o σ9 τ9 z9 h9
  obtain ⟨rfl, h9⟩ := h9
  rcases o with (_ | v) | E
  · exact absurd h9 id
  · cases v with
    | int v =>
      refine ⟨rfl, ?_⟩
      refine k_istore (lv' := [(4, _), (0, _), (1, _), (2, _), (3, _)]) dL_lowestOctane_7 (by decide) rfl ?_
      refine k_goto 17 dL_lowestOctane_9 (by decide) ?_
      refine k_iload dL_lowestOctane_17 rfl ?_
      refine k_iret dL_lowestOctane_19 rfl (rfl) ?_
      exact h9
    | _ => exact absurd h9 id
  · obtain ⟨k, hk, h9⟩ := h9
    refine ⟨rfl, ?_⟩
    simp only [List.mem_cons, List.not_mem_nil, or_false, Prod.mk.injEq] at hk
    obtain ⟨rfl, rfl⟩ := hk
    exact k_catch0 rfl (by decide) (by decide) wE15 wX15 (k_castore dL_lowestOctane_12 (by decide) (k_ldc dL_lowestOctane_14 wK_L_17 (k_iret dL_lowestOctane_16 rfl (rfl) h9)))

set_option maxRecDepth 100000 in
set_option maxHeartbeats 4000000 in
theorem m_L_append {X : kn_X} {σ : kn_S} {τ : kn_T} {z : kn_Z} {c n : Nat} {Q : kn_Q} {x0 : Int32} (hK : kn_isK z) (hE : ∀ Q6 : kn_Q, (∀ o σ9 τ9 z9, kn_LR Q z [("java/lang/IllegalArgumentException", (-5000001)), ("java/lang/IllegalStateException", (-5000002))] o σ9 τ9 z9 → Q6 o σ9 τ9 z9) → kn_Ev X MX6_append [.ref 0, .int x0] σ τ z c n Q6) : kn_Ev X ML_append [.ref 0, .int x0] σ τ z c n Q := by
  refine kn_entryH (by decide +kernel) rfl (Nat.le_of_ble_eq_true rfl) ?_
  show kn_Go X ML_append 0 [(0, .ref 0), (1, .int x0)] [] _ _ _ _ _ _
  refine k_aload_n 0 dL_append_0 rfl rfl ?_
  refine k_iload_n 1 dL_append_1 rfl rfl ?_
  refine k_invV (As := [_]) dL_append_2 mm_X6_append wL_L_80 ⟨by decide, by decide⟩ hK.1.1 hK.1.2 rfl rfl (Nat.le_of_ble_eq_true rfl) (Nat.le_refl c) (Nat.le_refl n) (hE _ ?_)
  intro o σ9 τ9 z9 h9
  obtain ⟨rfl, h9⟩ := h9
  rcases o with (_ | v) | E
  · exact absurd h9 id
  · cases v with
    | int v =>
      refine ⟨rfl, ?_⟩
      refine k_istore_n 2 (lv' := [(2, _), (0, _), (1, _)]) dL_append_5 rfl (by decide) rfl ?_
      refine k_goto 17 dL_append_6 (by decide) ?_
      refine k_iload_n 2 dL_append_17 rfl rfl ?_
      refine k_iret dL_append_18 rfl (rfl) ?_
      exact h9
    | _ => exact absurd h9 id
  · obtain ⟨k, hk, h9⟩ := h9
    refine ⟨rfl, ?_⟩
    simp only [List.mem_cons, List.not_mem_nil, or_false, Prod.mk.injEq] at hk
    rcases hk with ⟨rfl, rfl⟩ | ⟨rfl, rfl⟩
    · exact k_catch0 rfl (by decide) (by decide) wE15 wX15 (k_castore_n dL_append_9 (by decide) (k_ldc dL_append_10 wK_L_17 (k_iret dL_append_12 rfl (rfl) h9)))
    · exact k_catch1 rfl (by decide) wE15 (by decide) (by decide) (by decide) wE83 wX83 (k_castore_n dL_append_13 (by decide) (k_ldc dL_append_14 wK_L_85 (k_iret dL_append_16 rfl (rfl) h9)))

set_option maxRecDepth 100000 in
set_option maxHeartbeats 4000000 in
theorem m_L_undo {X : kn_X} {σ : kn_S} {τ : kn_T} {z : kn_Z} {c n : Nat} {Q : kn_Q} (hK : kn_isK z) (hE : ∀ Q6 : kn_Q, (∀ o σ9 τ9 z9, kn_LR Q z [("java/lang/IllegalStateException", (-5000002))] o σ9 τ9 z9 → Q6 o σ9 τ9 z9) → kn_Ev X MX6_undo [.ref 0] σ τ z c n Q6) : kn_Ev X ML_undo [.ref 0] σ τ z c n Q := by
  refine kn_entryH (by decide +kernel) rfl (Nat.le_of_ble_eq_true rfl) ?_
  show kn_Go X ML_undo 0 [(0, .ref 0)] [] _ _ _ _ _ _
  refine k_aload_n 0 dL_undo_0 rfl rfl ?_
  refine k_invV (As := []) dL_undo_1 mm_X6_undo wL_L_86 ⟨by decide, by decide⟩ hK.1.1 hK.1.2 rfl rfl (Nat.le_of_ble_eq_true rfl) (Nat.le_refl c) (Nat.le_refl n) (hE _ ?_)
  intro o σ9 τ9 z9 h9
  obtain ⟨rfl, h9⟩ := h9
  rcases o with (_ | v) | E
  · exact absurd h9 id
  · cases v with
    | int v =>
      refine ⟨rfl, ?_⟩
      refine k_istore_n 1 (lv' := [(1, _), (0, _)]) dL_undo_4 rfl (by decide) rfl ?_
      refine k_goto 12 dL_undo_5 (by decide) ?_
      refine k_iload_n 1 dL_undo_12 rfl rfl ?_
      refine k_iret dL_undo_13 rfl (rfl) ?_
      exact h9
    | _ => exact absurd h9 id
  · obtain ⟨k, hk, h9⟩ := h9
    refine ⟨rfl, ?_⟩
    simp only [List.mem_cons, List.not_mem_nil, or_false, Prod.mk.injEq] at hk
    obtain ⟨rfl, rfl⟩ := hk
    exact k_catch0 rfl (by decide) (by decide) wE83 wX83 (k_castore_n dL_undo_8 (by decide) (k_ldc dL_undo_9 wK_L_85 (k_iret dL_undo_11 rfl (rfl) h9)))

