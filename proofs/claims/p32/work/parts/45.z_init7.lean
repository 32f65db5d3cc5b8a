-- a new Log
theorem wZ_X3 : Cond.initialized RX3 ∈ kn_ws := kn_in 17 (by decide +kernel) (by decide +kernel)
abbrev kn_dsL : List (Option Value) := [some .null, some .null, some .null, none, none]
theorem kn_dX3 : ∀ j, j < 5 → ∃ d, kn_dsL[j]? = some d ∧ defaultValue (tyX3 j) = kn_df d := by
  intro j hj
  rcases j with _ | _ | _ | _ | _ | j
  · exact ⟨some .null, rfl, rfl⟩
  · exact ⟨some .null, rfl, rfl⟩
  · exact ⟨some .null, rfl, rfl⟩
  · exact ⟨none, rfl, rfl⟩
  · exact ⟨none, rfl, rfl⟩
  · omega
abbrev kn_lS (s : kn_S) (N : Nat) : kn_S := kn_nS (kn_nS (kn_nS (kn_zS s N) (N + 1)) (N + 1 + 2)) (N + 1 + 4)
abbrev kn_lT (t : kn_T) (N : Nat) : kn_T := kn_nT (kn_nT (kn_nT (kn_zT t N) (N + 1)) (N + 1 + 2)) (N + 1 + 4)
abbrev kn_lZ (z : kn_Z) : kn_Z := kn_z3 (kn_zZ z (.inl (2, kn_dsL))) z.1
theorem k_newLog {X : kn_X} {M : kn_M} {pc : Nat} {lv : kn_L} {σ : kn_S} {τ : kn_T} {z : kn_Z} {c n : Nat} {Q : kn_Q} {st : List Value} {idx idx2 : Nat} {host : String} (d0 : decode M.2.1 pc = .ok (.new idx, 3)) (d1 : decode M.2.1 (pc + 3) = .ok (.dup, 1)) (d3 : decode M.2.1 (pc + 4) = .ok (.invokespecial idx2, 3)) (hC : Cond.classLink M.1.cls idx RX3 ∈ kn_ws) (hK : Cond.methodLinkNest M.1.cls idx2 MX3_init.1 host ∈ kn_bad) (hf : kn_fit M MX3_init) (v1 : kn_vok z.1 st) (v2 : kn_vok z.1 (lv.map (fun q => q.2))) (hrs : (st.map fun v => v.category).sum ≤ 7)
    (k : kn_Go X M (pc + 7) lv (.ref z.1 :: st) (kn_lS σ z.1) (kn_lT τ z.1) (kn_lZ z) c n Q) : kn_Go X M pc lv st σ τ z (c + 6 + 1) (n + 183 + 5) Q := by
  refine k_new d0 hc_X3 hC wI_X3 wZ_X3 kn_dX3 (fun r hr => by simp [kn_dsL] at hr) v1 v2 ?_
  refine k_dup d1 rfl ?_
  have w1 : kn_vok (z.1 + 1) (Value.ref z.1 :: st) := by
    intro r hr
    rcases List.mem_cons.mp hr with q | q
    · cases q; exact Nat.lt_succ_self _
    · exact Nat.lt_succ_of_lt (v1 r q)
  refine k_invIN (As := []) (i := z.1) (rest := .ref z.1 :: st) (c1 := 0 + 1 + 1 + 1 + 1 + 1 + 1) (n1 := 0 + 60 + 1 + 60 + 1 + 60 + 1) d3 mm_X3_init hK hf rfl rfl (by rw [List.map_cons, List.sum_cons]; show 1 + _ ≤ 8; omega) (by omega) (by omega) w1 (fun r hr => Nat.lt_succ_of_lt (v2 r hr)) ?_
  refine m_X3_init (Nat.lt_succ_self _) (if_pos rfl) ?_
  show kn_Go X M (pc + 7) lv (.ref z.1 :: st) (kn_lS σ z.1) (kn_lT τ z.1) (kn_lZ z) (c + 6 - (0 + 1 + 1 + 1 + 1 + 1 + 1)) (n + 183 - (0 + 60 + 1 + 60 + 1 + 60 + 1)) Q
  rw [show c + 6 - (0 + 1 + 1 + 1 + 1 + 1 + 1) = c by omega, show n + 183 - (0 + 60 + 1 + 60 + 1 + 60 + 1) = n by omega]
  exact k

