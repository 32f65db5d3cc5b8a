-- a new Row
abbrev kn_nS (s : kn_S) (N : Nat) : kn_S := kn_zS (kn_zS s N) (N + 1)
abbrev kn_nT (t : kn_T) (N : Nat) : kn_T := kn_zT (kn_zT t N) (N + 1)
abbrev kn_nR (z : kn_Z) (L : Nat) : kn_Z := kn_zP (kn_zZ (kn_zZ z (.inl (3, [some .null]))) (.inr (.inl (0, L)))) z.1 3 [some (.ref (z.1 + 1))]
theorem wZ_X4 : Cond.initialized RX4 ∈ kn_ws := kn_in 15 (by decide +kernel) (by decide +kernel)
theorem kn_dX4 : ∀ j, j < 1 → ∃ d, ([some Value.null] : List (Option Value))[j]? = some d ∧ defaultValue (tyX4 j) = kn_df d := by
  intro j hj
  obtain rfl : j = 0 := by omega
  exact ⟨some .null, rfl, rfl⟩
theorem k_newRow {X : kn_X} {M : kn_M} {pc : Nat} {lv : kn_L} {σ : kn_S} {τ : kn_T} {z : kn_Z} {c n : Nat} {Q : kn_Q} {st : List Value} {idx idx2 L : Nat} {b : Int} (d0 : decode M.2.1 pc = .ok (.new idx, 3)) (d1 : decode M.2.1 (pc + 3) = .ok (.dup, 1)) (d2 : decode M.2.1 (pc + 4) = .ok (.bipush b, 2)) (d3 : decode M.2.1 (pc + 6) = .ok (.invokespecial idx2, 3)) (hb : (Int8.ofInt b).toInt32 = nI L) (hL : L ≤ 1016) (hC : Cond.classLink M.1.cls idx RX4 ∈ kn_ws) (hK : Cond.methodLink M.1.cls idx2 MX4_init.1 ∈ kn_ws) (hf : kn_fit M MX4_init) (v1 : kn_vok z.1 st) (v2 : kn_vok z.1 (lv.map (fun q => q.2))) (hrs : (st.map fun v => v.category).sum ≤ 7)
    (k : kn_Go X M (pc + 9) lv (.ref z.1 :: st) (kn_nS σ z.1) (kn_nT τ z.1) (kn_nR z L) c n Q) : kn_Go X M pc lv st σ τ z (c + 1 + 1) (n + L + 1) Q := by
  refine k_new d0 hc_X4 hC wI_X4 wZ_X4 kn_dX4 (fun r hr => by cases List.mem_singleton.mp hr) v1 v2 ?_
  refine k_dup d1 rfl ?_
  refine k_bipush (nI L) d2 hb ?_
  have w1 : kn_vok (z.1 + 1) (Value.ref z.1 :: st) := by
    intro r hr
    rcases List.mem_cons.mp hr with q | q
    · cases q; exact Nat.lt_succ_self _
    · exact Nat.lt_succ_of_lt (v1 r q)
  refine k_invI (As := [.int (nI L)]) (i := z.1) (rest := .ref z.1 :: st) (c1 := 0 + 1) (n1 := 0 + L) d3 mm_X4_init hK hf rfl rfl (by rw [List.map_cons, List.sum_cons]; show 1 + _ ≤ 8; omega) (by omega) (by omega) w1 (fun r hr => Nat.lt_succ_of_lt (v2 r hr)) ?_
  refine m_X4_init (Nat.lt_succ_self _) (if_pos rfl) hL ?_
  show kn_Go X M (pc + 9) lv (.ref z.1 :: st) (kn_nS σ z.1) (kn_nT τ z.1) (kn_nR z L) (c + 1 - (0 + 1)) (n + L - (0 + L)) Q
  rw [show c + 1 - (0 + 1) = c by omega, show n + L - (0 + L) = n by omega]
  exact k

