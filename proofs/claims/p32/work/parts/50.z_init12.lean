-- a new State
theorem wZ_X5 : Cond.initialized RX5 ∈ kn_ws := kn_in 14 (by decide +kernel) (by decide +kernel)
abbrev kn_dsS : List (Option Value) := [some .null, some .null, some .null, some .null, some .null, some .null, some .null, none, none, none, none, none, none, none, none, none, none]
theorem kn_dX5 : ∀ j, j < 17 → ∃ d, kn_dsS[j]? = some d ∧ defaultValue (tyX5 j) = kn_df d := by
  intro j hj
  rcases j with _ | _ | _ | _ | _ | _ | _ | _ | _ | _ | _ | _ | _ | _ | _ | _ | _ | j
  · exact ⟨some .null, rfl, rfl⟩
  · exact ⟨some .null, rfl, rfl⟩
  · exact ⟨some .null, rfl, rfl⟩
  · exact ⟨some .null, rfl, rfl⟩
  · exact ⟨some .null, rfl, rfl⟩
  · exact ⟨some .null, rfl, rfl⟩
  · exact ⟨some .null, rfl, rfl⟩
  · exact ⟨none, rfl, rfl⟩
  · exact ⟨none, rfl, rfl⟩
  · exact ⟨none, rfl, rfl⟩
  · exact ⟨none, rfl, rfl⟩
  · exact ⟨none, rfl, rfl⟩
  · exact ⟨none, rfl, rfl⟩
  · exact ⟨none, rfl, rfl⟩
  · exact ⟨none, rfl, rfl⟩
  · exact ⟨none, rfl, rfl⟩
  · exact ⟨none, rfl, rfl⟩
  · omega
/-- the ints of a State that was just made at b -/
abbrev kn_sI (X : kn_X) (s : kn_S) (b : Nat) : kn_S := kf_restart (kn_up (kn_up (kf_ini X s b 8) b 15 1) b 16 0) b 4
theorem k_newState {X : kn_X} {M : kn_M} {pc : Nat} {lv : kn_L} {σ : kn_S} {τ : kn_T} {z : kn_Z} {c n : Nat} {Q : kn_Q} {st : List Value} {idx idx2 : Nat} (d0 : decode M.2.1 pc = .ok (.new idx, 3)) (d1 : decode M.2.1 (pc + 3) = .ok (.dup, 1)) (d3 : decode M.2.1 (pc + 4) = .ok (.invokespecial idx2, 3)) (hC : Cond.classLink M.1.cls idx RX5 ∈ kn_ws) (hK : Cond.methodLink M.1.cls idx2 MX5_init.1 ∈ kn_ws) (hf : kn_fit M MX5_init) (v1 : kn_vok z.1 st) (v2 : kn_vok z.1 (lv.map (fun q => q.2))) (hrs : (st.map fun v => v.category).sum ≤ 7)
    (k : ∀ σ9 : kn_S, ∀ τ9 : kn_T, (∀ j, j ≤ z.1 ∨ z.1 + 20 ≤ j → σ9 j = kn_zS σ z.1 j) → (∀ j k, z.1 < j → j < z.1 + 20 → σ9 j k = 0) → (∀ j, j ≤ z.1 ∨ z.1 + 20 ≤ j → τ9 j = kn_zT τ z.1 j) → kn_Go X M (pc + 7) lv (.ref z.1 :: st) (kn_sI X σ9 z.1) τ9 (kn_z5 (kn_zZ z (.inl (4, kn_dsS))) z.1) c n Q) : kn_Go X M pc lv st σ τ z (c + 19 + 1) (n + 258 + 17) Q := by
  refine k_new d0 hc_X5 hC wI_X5 wZ_X5 kn_dX5 (fun r hr => by simp [kn_dsS] at hr) v1 v2 ?_
  refine k_dup d1 rfl ?_
  have w1 : kn_vok (z.1 + 1) (Value.ref z.1 :: st) := by
    intro r hr
    rcases List.mem_cons.mp hr with q | q
    · cases q; exact Nat.lt_succ_self _
    · exact Nat.lt_succ_of_lt (v1 r q)
  refine k_invI (As := []) (i := z.1) (rest := .ref z.1 :: st) (c1 := 0 + 6 + 1 + 1 + 1 + 1 + 1 + 1 + 1 + 1 + 1 + 1 + 1 + 1 + 1) (n1 := 0 + 183 + 5 + 24 + 1 + 8 + 1 + 8 + 1 + 8 + 1 + 8 + 1 + 8 + 1) d3 mm_X5_init hK hf rfl rfl (by rw [List.map_cons, List.sum_cons]; show 1 + _ ≤ 8; omega) (by omega) (by omega) w1 (fun r hr => Nat.lt_succ_of_lt (v2 r hr)) ?_
  refine m_X5_init rfl (if_pos rfl) (fun σ9 τ9 f1 f2 f3 => ?_)
  have h := k σ9 τ9 f1 f2 f3
  show kn_Go X M (pc + 7) lv (.ref z.1 :: st) (kn_sI X σ9 z.1) τ9 (kn_z5 (kn_zZ z (.inl (4, kn_dsS))) z.1) (c + 19 - (0 + 6 + 1 + 1 + 1 + 1 + 1 + 1 + 1 + 1 + 1 + 1 + 1 + 1 + 1)) (n + 258 - (0 + 183 + 5 + 24 + 1 + 8 + 1 + 8 + 1 + 8 + 1 + 8 + 1 + 8 + 1)) Q
  rw [show c + 19 - (0 + 6 + 1 + 1 + 1 + 1 + 1 + 1 + 1 + 1 + 1 + 1 + 1 + 1 + 1) = c by omega, show n + 258 - (0 + 183 + 5 + 24 + 1 + 8 + 1 + 8 + 1 + 8 + 1 + 8 + 1 + 8 + 1) = n by omega]
  exact h

