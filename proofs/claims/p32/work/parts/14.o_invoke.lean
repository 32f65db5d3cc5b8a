-- rows of the calls
def kn_ok0 (M2 : kn_M) (k : Nat) : Prop := M2.1.cls ≠ "java/lang/invoke/MethodHandle" ∧ M2.1.cls ≠ "java/lang/invoke/VarHandle" ∧ (parseMethodDescriptor M2.1.desc).map (fun d => d.parameters.length) = some k
/-- what a call of an instance method needs of the tables; ci: its class's place -/
def kn_mV (M2 : kn_M) (k ci : Nat) : Prop := M2.2.2.2.2.1 = [] ∧ kn_w M2 ∈ kn_ws ∧ (Cond.instanceMethod M2.1 ∈ kn_ws ∧ Cond.selects M2.1.cls M2.1 M2.1 ∈ kn_ws ∧ Cond.initialized M2.1.cls ∈ kn_ws) ∧ kn_ok0 M2 k ∧ ∃ T N, vwCl[ci]? = some (M2.1.cls, T, N)
def kn_mS (M2 : kn_M) (k : Nat) : Prop := M2.2.2.2.2.1 = [] ∧ kn_w M2 ∈ kn_ws ∧ (Cond.static M2.1 ∈ kn_ws ∧ Cond.initialized M2.1.cls ∈ kn_ws) ∧ kn_ok0 M2 k
def kn_mSH (M2 : kn_M) (k : Nat) : Prop := M2.2.2.2.2.1 ≠ [] ∧ kn_w M2 ∈ kn_ws ∧ (Cond.static M2.1 ∈ kn_ws ∧ Cond.initialized M2.1.cls ∈ kn_ws) ∧ kn_ok0 M2 k
def kn_mI (M2 : kn_M) (k : Nat) : Prop := M2.2.2.2.2.1 = [] ∧ kn_w M2 ∈ kn_ws ∧ (Cond.instanceMethod M2.1 ∈ kn_ws ∧ Cond.initialized M2.1.cls ∈ kn_ws ∧ M2.1.name = "<init>" ∧ M2.2.2.2.1 = none) ∧ kn_ok0 M2 k
theorem kn_w0 {M2 : kn_M} (h : M2.2.2.2.2.1 = []) : kn_w M2 :: kn_ws = Cond.code M2.1 M2.2.1 M2.2.2.1 M2.2.2.2.1 :: kn_ws := by rw [kn_w, h]
theorem kn_wH {M2 : kn_M} (h : M2.2.2.2.2.1 ≠ []) : kn_w M2 :: kn_ws = Cond.codeWith M2.1 M2.2.1 M2.2.2.1 M2.2.2.2.1 M2.2.2.2.2.1 :: kn_ws := by
  unfold kn_w
  split
  · rename_i h9
    exact absurd h9 h
  · rfl
def kn_fit (M M2 : kn_M) : Prop := M2.2.2.2.2.2.1 + 1 ≤ M.2.2.2.2.2.1 ∧ 8 + (M2.2.2.1 + 11) + M2.2.2.2.2.2.2 ≤ M.2.2.2.2.2.2
section KNV
variable {X : kn_X} {M : kn_M} {pc : Nat} {lv : kn_L} {σ : kn_S} {τ : kn_T} {z : kn_Z} {c n : Nat} {Q : kn_Q} {ci i k idx c1 n1 : Nat} {ds : List (Option Value)} {As rest st : List Value}
theorem kn_stk {ad ar : Nat → Nat} {As rest st : List Value} {i : Nat} (h : st = As.reverse ++ .ref i :: rest) : st.map (kn_cv ad ar) = (As.map (kn_cv ad ar)).reverse ++ .ref (ad i) :: rest.map (kn_cv ad ar) := by
  rw [h, List.map_append, List.map_reverse]
  rfl
theorem kn_stkS {ad ar : Nat → Nat} {As rest st : List Value} (h : st = As.reverse ++ rest) : st.map (kn_cv ad ar) = (As.map (kn_cv ad ar)).reverse ++ rest.map (kn_cv ad ar) := by
  rw [h, List.map_append, List.map_reverse]
theorem kn_hk {c1 n1 : Nat} {ad ar : Nat → Nat} : ∀ (ad' : Nat → Nat) (o : kn_O) (σ' : kn_S) (τ' : kn_T) (z' : kn_Z), kn_K X M pc lv rest z.1 (c - c1) (n - n1) Q o σ' τ' z' → kn_Ad z.1 ad z' ad' → kn_KN X M pc lv rest (c - c1) (n - n1) Q o σ' τ' z' ∧ rest.map (kn_cv ad' ar) = rest.map (kn_cv ad ar) ∧ kn_lc ad' ar lv = kn_lc ad ar lv := by
  intro ad' o σ' τ' z' h hA
  obtain ⟨h1, h2⟩ := h
  have h3 := hA.2.2 h1
  subst h3
  exact ⟨h2, rfl, rfl⟩
theorem kn_hkN {c1 n1 : Nat} {ad ar : Nat → Nat} (v1 : kn_vok z.1 rest) (v2 : kn_vok z.1 (lv.map (fun q => q.2))) : ∀ (ad' : Nat → Nat) (o : kn_O) (σ' : kn_S) (τ' : kn_T) (z' : kn_Z), kn_KN X M pc lv rest (c - c1) (n - n1) Q o σ' τ' z' → kn_Ad z.1 ad z' ad' → kn_KN X M pc lv rest (c - c1) (n - n1) Q o σ' τ' z' ∧ rest.map (kn_cv ad' ar) = rest.map (kn_cv ad ar) ∧ kn_lc ad' ar lv = kn_lc ad ar lv := by
  intro ad' o σ' τ' z' h hA
  exact ⟨h, kn_vok_map v1 hA.2.1, kn_vok_lc v2 hA.2.1⟩
theorem kn_pre {D : va_G} {cs : Nat → ClassId} {z0 : Nat} {ar ad : Nat → Nat} {p : Program} {l : Launch} {R : Room} {s : State} {m : MethodId} {args : Array Value} {meth : Method} {cd : Code} (C : kn_C X M D cs z0 ar p l R s m args meth cd) {H : Heap} {locs : List Loc} (hW : kn_Wd D cs z0 ad σ τ z H) (hS : va_S (kn_A z0) s.heap H locs) (vs : List Value) {U : State} (hU : U.heap = H) (hw : s.WarmedH U.vm) :
    kn_Pc X D cs z0 ar ad vs σ τ z (vs.map (kn_cv ad ar)).toArray U :=
  ⟨rfl, by rw [hU]; exact hW, va_K.moved hw.alike C.2.2.2.1, by rw [hU]; exact (C.2.2.2.2.kept hS).moved hw⟩
theorem k_invV {M2 : kn_M} (hd : decode M.2.1 pc = .ok (.invokevirtual idx, 3)) (hm : kn_mV M2 k ci) (hL : Cond.methodLink M.1.cls idx M2.1 ∈ kn_ws) (hf : kn_fit M M2) (hi : i < z.1) (hz : z.2 i = .inl (ci, ds)) (hst : st = As.reverse ++ .ref i :: rest) (hn : As.length = k) (hrs : (rest.map fun v => v.category).sum ≤ 8) (h1 : c1 ≤ c) (h2 : n1 ≤ n)
    (hE : kn_Ev X M2 (.ref i :: As) σ τ z c1 n1 (kn_K X M pc lv rest z.1 (c - c1) (n - n1) Q)) : kn_Go X M pc lv st σ τ z c n Q := by
  intro D cs z0 ar p l e R s m args below meth cd n0 a0 mc ms QF Cx ad H locs ls cells slots hA
  obtain ⟨g1, g2, ⟨g3, g4, g5⟩, g6, T, N, g7⟩ := hm
  refine kn_after Cx hA h1 h2 kn_hk (vx_runV (As := As.map (kn_cv ad ar)) (rest := rest.map (kn_cv ad ar)) Cx.1.1 (hE l D cs z0 ar ad Cx.1.2.1.1)
    (cwV (C := M2.1.cls) k Cx.1.1.2.2.2.2 (kn_goods (fun w hw => ?_) g2) (kn_w0 g1) rfl rfl ⟨rfl, g6⟩ ⟨Nat.le_trans hf.1 Cx.1.2.2.1.1, Nat.le_trans hf.2 Cx.1.2.2.1.2⟩)
    ⟨kn_blind, va_recv Cx.1.2.2.2.1 hA.2.2.1.1 g7 (by rw [kn_wl_get hi, kn_ent_ob hz]), fun U hU hW => kn_pre Cx.1 hA.2.2.1 hA.2.2.2.1 (.ref i :: As) hU hW⟩
    rfl (by rw [List.length_map]; exact hn) hA.2.2.2.2.1 (kn_stk hst) (lv_room (by rw [kn_cats]; exact hrs)) hd ⟨?_, ?_⟩)
  · simp only [List.mem_cons, List.not_mem_nil, or_false] at hw
    rcases hw with rfl | rfl | rfl | rfl
    · exact hL
    · exact g3
    · exact g4
    · exact g5
  · have := hA.2.1.1; have := Cx.2.2.1; omega
  · have := hA.2.1.2; have := Cx.2.2.2; omega
theorem k_invS {M2 : kn_M} (hd : decode M.2.1 pc = .ok (.invokestatic idx, 3)) (hm : kn_mS M2 k) (hL : Cond.methodLink M.1.cls idx M2.1 ∈ kn_ws) (hf : kn_fit M M2) (hst : st = As.reverse ++ rest) (hn : As.length = k) (hrs : (rest.map fun v => v.category).sum ≤ 8) (h1 : c1 ≤ c) (h2 : n1 ≤ n)
    (hE : kn_Ev X M2 As σ τ z c1 n1 (kn_K X M pc lv rest z.1 (c - c1) (n - n1) Q)) : kn_Go X M pc lv st σ τ z c n Q := by
  intro D cs z0 ar p l e R s m args below meth cd n0 a0 mc ms QF Cx ad H locs ls cells slots hA
  obtain ⟨g1, g2, ⟨g3, g4⟩, g6⟩ := hm
  refine kn_after Cx hA h1 h2 kn_hk (vx_runS (As := As.map (kn_cv ad ar)) (rest := rest.map (kn_cv ad ar)) Cx.1.1 (hE l D cs z0 ar ad Cx.1.2.1.1)
    (va_cwS k Cx.1.1.2.2.2.2 (kn_goods (fun w hw => ?_) g2) (kn_w0 g1) rfl rfl g6 ⟨Nat.le_trans hf.1 Cx.1.2.2.1.1, Nat.le_trans hf.2 Cx.1.2.2.1.2⟩)
    ⟨kn_blind, fun U hU hW => kn_pre Cx.1 hA.2.2.1 hA.2.2.2.1 As hU hW⟩
    rfl (by rw [List.length_map]; exact hn) hA.2.2.2.2.1 (kn_stkS hst) (lv_room (by rw [kn_cats]; exact hrs)) hd ⟨?_, ?_⟩)
  · simp only [List.mem_cons, List.not_mem_nil, or_false] at hw
    rcases hw with rfl | rfl | rfl
    · exact hL
    · exact g3
    · exact g4
  · have := hA.2.1.1; have := Cx.2.2.1; omega
  · have := hA.2.1.2; have := Cx.2.2.2; omega
theorem k_invSH {M2 : kn_M} (hd : decode M.2.1 pc = .ok (.invokestatic idx, 3)) (hm : kn_mSH M2 k) (hL : Cond.methodLink M.1.cls idx M2.1 ∈ kn_ws) (hf : kn_fit M M2) (hst : st = As.reverse ++ rest) (hn : As.length = k) (hrs : (rest.map fun v => v.category).sum ≤ 8) (h1 : c1 ≤ c) (h2 : n1 ≤ n)
    (hE : kn_Ev X M2 As σ τ z c1 n1 (kn_K X M pc lv rest z.1 (c - c1) (n - n1) Q)) : kn_Go X M pc lv st σ τ z c n Q := by
  intro D cs z0 ar p l e R s m args below meth cd n0 a0 mc ms QF Cx ad H locs ls cells slots hA
  obtain ⟨g1, g2, ⟨g3, g4⟩, g6⟩ := hm
  refine kn_after Cx hA h1 h2 kn_hk (vx_runSX (As := As.map (kn_cv ad ar)) (rest := rest.map (kn_cv ad ar)) Cx.1.1 (hE l D cs z0 ar ad Cx.1.2.1.1)
    (vx_cwSW k Cx.1.1.2.2.2.2 (kn_goods (fun w hw => ?_) g2) (kn_wH g1) rfl rfl g6 ⟨Nat.le_trans hf.1 Cx.1.2.2.1.1, Nat.le_trans hf.2 Cx.1.2.2.1.2⟩)
    ⟨kn_blind, fun U hU hW => kn_pre Cx.1 hA.2.2.1 hA.2.2.2.1 As hU hW⟩
    rfl (by rw [List.length_map]; exact hn) hA.2.2.2.2.1 (kn_stkS hst) (lv_room (by rw [kn_cats]; exact hrs)) hd ⟨?_, ?_⟩)
  · simp only [List.mem_cons, List.not_mem_nil, or_false] at hw
    rcases hw with rfl | rfl | rfl
    · exact hL
    · exact g3
    · exact g4
  · have := hA.2.1.1; have := Cx.2.2.1; omega
  · have := hA.2.1.2; have := Cx.2.2.2; omega
theorem k_invI {M2 : kn_M} (hd : decode M.2.1 pc = .ok (.invokespecial idx, 3)) (hm : kn_mI M2 k) (hL : Cond.methodLink M.1.cls idx M2.1 ∈ kn_ws) (hf : kn_fit M M2) (hst : st = As.reverse ++ .ref i :: rest) (hn : As.length = k) (hrs : (rest.map fun v => v.category).sum ≤ 8) (h1 : c1 ≤ c) (h2 : n1 ≤ n) (v1 : kn_vok z.1 rest) (v2 : kn_vok z.1 (lv.map (fun q => q.2)))
    (hE : kn_Ev X M2 (.ref i :: As) σ τ z c1 n1 (kn_KN X M pc lv rest (c - c1) (n - n1) Q)) : kn_Go X M pc lv st σ τ z c n Q := by
  intro D cs z0 ar p l e R s m args below meth cd n0 a0 mc ms QF Cx ad H locs ls cells slots hA
  obtain ⟨g1, g2, ⟨g3, g4, g5, g7⟩, g6⟩ := hm
  have hts := Cx.1.1.2.2.2.2
  refine kn_after Cx hA h1 h2 (kn_hkN v1 v2) (vx_runI (As := As.map (kn_cv ad ar)) (rest := rest.map (kn_cv ad ar)) Cx.1.1 (hE l D cs z0 ar ad Cx.1.2.1.1)
    (cwI k hts (kn_good0 g2) ((kn_w0 g1).trans (by rw [g7])) rfl rfl (hts _ g4) (hts _ hL) (hts _ g3) g5 g6 ⟨Nat.le_trans hf.1 Cx.1.2.2.1.1, Nat.le_trans hf.2 Cx.1.2.2.1.2⟩)
    ⟨kn_blind, fun U hU hW => kn_pre Cx.1 hA.2.2.1 hA.2.2.2.1 (.ref i :: As) hU hW⟩
    rfl (by rw [List.length_map]; exact hn) hA.2.2.2.2.1 (kn_stk hst) (lv_room (by rw [kn_cats]; exact hrs)) hd ⟨?_, ?_⟩)
  · have := hA.2.1.1; have := Cx.2.2.1; omega
  · have := hA.2.1.2; have := Cx.2.2.2; omega
theorem k_invIN {M2 : kn_M} {host : String} (hd : decode M.2.1 pc = .ok (.invokespecial idx, 3)) (hm : kn_mI M2 k) (hL : Cond.methodLinkNest M.1.cls idx M2.1 host ∈ kn_bad) (hf : kn_fit M M2) (hst : st = As.reverse ++ .ref i :: rest) (hn : As.length = k) (hrs : (rest.map fun v => v.category).sum ≤ 8) (h1 : c1 ≤ c) (h2 : n1 ≤ n) (v1 : kn_vok z.1 rest) (v2 : kn_vok z.1 (lv.map (fun q => q.2)))
    (hE : kn_Ev X M2 (.ref i :: As) σ τ z c1 n1 (kn_KN X M pc lv rest (c - c1) (n - n1) Q)) : kn_Go X M pc lv st σ τ z c n Q := by
  intro D cs z0 ar p l e R s m args below meth cd n0 a0 mc ms QF Cx ad H locs ls cells slots hA
  obtain ⟨g1, g2, ⟨g3, g4, g5, g7⟩, g6⟩ := hm
  have hts := Cx.1.1.2.2.2.2
  refine kn_after Cx hA h1 h2 (kn_hkN v1 v2) (vx_runIN (As := As.map (kn_cv ad ar)) (rest := rest.map (kn_cv ad ar)) Cx.1.1 (hE l D cs z0 ar ad Cx.1.2.1.1)
    ⟨va_cnB k hts (kn_good0 g2) ((kn_w0 g1).trans (by rw [g7])) rfl rfl (Cx.1.2.2.2.2.2.2.2.2.1 _ hL) (hts _ g4) g6 ⟨Nat.le_trans hf.1 Cx.1.2.2.1.1, Nat.le_trans hf.2 Cx.1.2.2.1.2⟩, g5, hts _ g3⟩
    ⟨kn_blind, fun U hU hW => kn_pre Cx.1 hA.2.2.1 hA.2.2.2.1 (.ref i :: As) hU hW⟩
    rfl (by rw [List.length_map]; exact hn) hA.2.2.2.2.1 (kn_stk hst) (lv_room (by rw [kn_cats]; exact hrs)) hd ⟨?_, ?_⟩)
  · have := hA.2.1.1; have := Cx.2.2.1; omega
  · have := hA.2.1.2; have := Cx.2.2.2; omega
theorem k_objInit (hd : decode M.2.1 pc = .ok (.invokespecial idx, 3)) (hL : Cond.methodLink M.1.cls idx Lib.objectInit ∈ kn_ws) (h3 : Cond.instanceMethod Lib.objectInit ∈ kn_ws ∧ Cond.code Lib.objectInit ⟨#[0xb1]⟩ 1 none ∈ kn_ws) (hf : 1 ≤ M.2.2.2.2.2.1 ∧ (rest.map fun v => v.category).sum + 12 ≤ M.2.2.2.2.2.2)
    (k : kn_Go X M (pc + 3) lv rest σ τ z c n Q) : kn_Go X M pc lv (.ref i :: rest) σ τ z c n Q := by
  intro D cs z0 ar p l e R s m args below meth cd n0 a0 mc ms QF Cx ad H locs ls cells slots hA
  have hts := Cx.1.1.2.2.2.2
  refine W.objInit Cx.1.1.1 Cx.1.1.2.1 Cx.1.1.2.2.2.1 (hts _ hL) (hts _ h3.1) (hts _ h3.2) rfl (by rw [Cx.1.1.2.2.1]; exact hA.2.2.2.2.1) rfl hd (Nat.le_trans hf.1 Cx.1.2.2.1.1) ?_ ?_
  · have h9 := Nat.le_trans hf.2 Cx.1.2.2.1.2
    rw [kn_cats]
    have h8 : (F0 m pc ls (List.map (kn_cv ad ar) (Value.ref i :: rest))).monitorRoom = 0 := rfl
    omega
  · exact k D cs z0 ar p l e R s m args below meth cd n0 a0 mc ms QF Cx ad H locs ls cells slots hA
end KNV

