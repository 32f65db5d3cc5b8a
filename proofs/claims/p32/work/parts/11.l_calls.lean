-- entry, ends, calls
theorem kn_args_lc (ad ar : Nat → Nat) : ∀ (vs : List Value) (i : Nat), lv_args i (vs.map (kn_cv ad ar)) = kn_lc ad ar (lv_args i vs)
  | [], _ => rfl
  | v :: vs, i => by
    simp only [List.map_cons, lv_args, kn_lc, kn_cv_cat]
    rw [kn_args_lc ad ar vs]
    rfl
theorem kn_sl_len (ad ar : Nat → Nat) : ∀ (vs : List Value), (lg_sl (vs.map (kn_cv ad ar))).length = (lg_sl vs).length
  | [] => rfl
  | v :: vs => by
    have h := kn_sl_len ad ar vs
    simp only [lg_sl, List.map_cons, List.flatMap_cons, List.length_append, kn_cv_cat] at h ⊢
    rw [h]
    split <;> rfl
theorem kn_cats (ad ar : Nat → Nat) (st : List Value) : ((st.map (kn_cv ad ar)).map fun v => v.category).sum = (st.map fun v => v.category).sum := by
  rw [List.map_map]
  congr 1
  refine List.map_congr_left fun v _ => ?_
  exact kn_cv_cat ad ar v
theorem kn_blind {X : kn_X} {D : va_G} {cs : Nat → ClassId} {z0 : Nat} {ar ad : Nat → Nat} {args : List Value} {σ : kn_S} {τ : kn_T} {z : kn_Z} : FrameBlind (kn_Pc X D cs z0 ar ad args σ τ z) := by
  intro a U g mk h
  obtain ⟨h1, h2, h3, h4⟩ := h
  exact ⟨h1, h2, va_K.moved (u := U) (U := U.calling g mk a) (Vm.Alike.refl U.vm) h3, kn_Fx.moved (s := U) (U := U.calling g mk a) (State.WarmedH.refl U) h4⟩
theorem kn_endMQ {X : kn_X} {M : kn_M} {D : va_G} {cs : Nat → ClassId} {z0 : Nat} {ar : Nat → Nat} {p : Program} {l : Launch} {e : Env} {R : Room} {s : State} {m : MethodId} {args : Array Value} {below : List Frame} {meth : Method} {cd : Code} {n0 : Nat} {a0 : Nat → Nat} {mc ms : Nat} {Q : kn_Q}
    (C : kn_C X M D cs z0 ar p l R s m args meth cd) : kn_End X M D cs z0 ar p l e R s m args below meth cd n0 a0 mc ms (vx_MQ below (kn_Qc D cs z0 ar a0 n0 Q) (kn_XC D cs z0 a0 n0 Q) args s mc ms (kn_A z0)) Q := by
  obtain ⟨⟨hx, hb, hml, hown, hts⟩, ⟨htr, hr, hlocks, htab, hin⟩, hroom, hK, hF⟩ := C
  constructor
  · intro v σ τ z ad H locs ls cells slots pc I hd hrok hQ hAd hWd hS hc hn
    refine W.widen hc hn (vx_ret ?_)
    have fin : ∀ t : State, t.heap = H → kn_Qc D cs z0 ar a0 n0 Q args s (.returned (v.map (kn_cv ad ar))) t := fun t ht =>
      ⟨v, ad, σ, τ, z, rfl, hQ, hAd, by rw [ht]; exact hWd, hS.F ht⟩
    cases v with
    | none => cases I <;> first
      | exact False.elim hrok
      | exact W.vret hx hb (hr.trans hrok) (fun t ht _ => fin t ht) hS.2.2 hd hlocks
    | some v => cases v <;> cases I <;> first
      | exact False.elim hrok
      | (obtain ⟨ty, h1, h2⟩ := hrok; exact W.zret hx hb (hr.trans h1) h2 (fun t ht _ => fin t ht) hS.2.2 hd hlocks)
      | exact W.lret hx hb (hr.trans hrok) (fun t ht _ => fin t ht) hS.2.2 hd hlocks
      | exact W.dret hx hb (hr.trans hrok) (fun t ht _ => fin t ht) hS.2.2 hd hlocks
      | (obtain ⟨C, h1⟩ := hrok; exact W.aret hx hb (hr.trans h1) (Or.inl ⟨C, rfl⟩) (by first | exact Or.inl rfl | exact Or.inr ⟨_, rfl⟩) (fun t ht _ => fin t ht) hS.2.2 hd hlocks)
  · intro E σ τ z ad H locs ls rest cells slots pc q ce hout hQ hAd hWd hS hc hn hq hv hcl
    exact vx_out hout hlocks hq hv hcl (fun t ht _ => ⟨ad, σ, τ, z, hQ, hAd, by rw [ht]; exact hWd, hS.F ht⟩) hS.2.2 hc hn
theorem kn_Ad.rf {z : kn_Z} {ad : Nat → Nat} : kn_Ad z.1 ad z ad := ⟨Nat.le_refl _, fun _ _ => rfl, fun _ => rfl⟩
theorem kn_entry {X : kn_X} {M : kn_M} {args : List Value} {σ : kn_S} {τ : kn_T} {z : kn_Z} {c n : Nat} {Q : kn_Q} (hp : plainName M.1.cls = true) (hM : M.2.2.2.2.1 = []) (hlen : (lg_sl args).length ≤ M.2.2.1)
    (k : kn_Go X M 0 (lv_args 0 args) [] σ τ z c n Q) : kn_Ev X M args σ τ z c n Q := by
  intro l D cs z0 ar ad htr
  have hw : kn_w M :: kn_ws = Cond.code M.1 M.2.1 M.2.2.1 M.2.2.2.1 :: kn_ws := by rw [kn_w, hM]
  refine vx_ofW (cc := M.2.1) (maxL := M.2.2.1) (ret := M.2.2.2.1) hp hw ?_
  intro p e s m args' below meth cd s₁ B hml ht hv
  obtain ⟨rfl, hW, hK, hF⟩ := hv
  have hts := atoms_spec (ws := kn_w M :: kn_ws) B.pre
  have htab : cd.exceptionTable.toList = tableOf M.2.2.2.2.1 := by
    rw [hM]
    exact List.eq_nil_iff_forall_not_mem.mpr fun x hx => ht x hx
  have C : kn_C X M D cs z0 ar p l (headSpec (kn_w M :: kn_ws) (kn_rm M c n)).room s m (args.map (kn_cv ad ar)).toArray meth cd :=
    ⟨⟨B.exec, B.bytes, hml, findClass_of_methodNamed B.named, fun w hw => hts w (List.mem_cons_of_mem _ hw)⟩, ⟨htr, B.returns, B.notSynchronized, htab, fun h => (name_of_methodNamed B.named B.method).1.trans h⟩, ⟨Nat.le_refl _, Nat.le_refl _⟩, hK, hF⟩
  rw [lg_entry_eq]
  have hl := lv_entry (args.map (kn_cv ad ar)) (n := M.2.2.1) (by rw [kn_sl_len]; exact hlen)
  rw [kn_args_lc] at hl
  exact k D cs z0 ar p l e _ s m _ below meth cd z.1 ad c n _ ⟨C, kn_endMQ C, Nat.le_refl _, Nat.le_refl _⟩ ad s.heap [] _ 0 0
    ⟨kn_Ad.rf, ⟨by omega, by omega⟩, hW, va_S.rf, hl⟩
theorem kn_entryH {X : kn_X} {M : kn_M} {args : List Value} {σ : kn_S} {τ : kn_T} {z : kn_Z} {c n : Nat} {Q : kn_Q} {h0 : Nat × Nat × Nat × Nat} {hr : List (Nat × Nat × Nat × Nat)} (hp : plainName M.1.cls = true) (hM : M.2.2.2.2.1 = h0 :: hr) (hlen : (lg_sl args).length ≤ M.2.2.1)
    (k : kn_Go X M 0 (lv_args 0 args) [] σ τ z c n Q) : kn_Ev X M args σ τ z c n Q := by
  intro l D cs z0 ar ad htr
  have hw : kn_w M :: kn_ws = Cond.codeWith M.1 M.2.1 M.2.2.1 M.2.2.2.1 M.2.2.2.2.1 :: kn_ws := by rw [kn_w, hM]
  refine vx_ofWH (cc := M.2.1) (maxL := M.2.2.1) (ret := M.2.2.2.1) hp hw ?_
  intro p e s m args' below meth cd s₁ B hml hv
  obtain ⟨rfl, hW, hK, hF⟩ := hv
  have hts := atoms_spec (ws := kn_w M :: kn_ws) B.pre
  have htab : cd.exceptionTable.toList = tableOf M.2.2.2.2.1 := vx_table (x := M.1) B (hts _ (by rw [hw]; exact List.mem_cons_self))
  have C : kn_C X M D cs z0 ar p l (headSpec (kn_w M :: kn_ws) (kn_rm M c n)).room s m (args.map (kn_cv ad ar)).toArray meth cd :=
    ⟨⟨B.exec, B.bytes, hml, findClass_of_methodNamed B.named, fun w hw => hts w (List.mem_cons_of_mem _ hw)⟩, ⟨htr, B.returns, B.notSynchronized, htab, fun h => (name_of_methodNamed B.named B.method).1.trans h⟩, ⟨Nat.le_refl _, Nat.le_refl _⟩, hK, hF⟩
  rw [lg_entry_eq]
  have hl := lv_entry (args.map (kn_cv ad ar)) (n := M.2.2.1) (by rw [kn_sl_len]; exact hlen)
  rw [kn_args_lc] at hl
  exact k D cs z0 ar p l e _ s m _ below meth cd z.1 ad c n _ ⟨C, kn_endMQ C, Nat.le_refl _, Nat.le_refl _⟩ ad s.heap [] _ 0 0
    ⟨kn_Ad.rf, ⟨by omega, by omega⟩, hW, va_S.rf, hl⟩
section KNE
variable {X : kn_X} {M : kn_M} {pc : Nat} {lv : kn_L} {σ : kn_S} {τ : kn_T} {z : kn_Z} {c n : Nat} {Q : kn_Q}
theorem k_end {I : Instr} {v : Option Value} (hd : decode M.2.1 pc = .ok (I, 1)) (hr : kn_rok M I v) (hQ : Q (.inl v) σ τ z) : kn_Go X M pc lv v.toList σ τ z c n Q := by
  intro D cs z0 ar p l e R s m args below meth cd n0 a0 mc ms QF Cx ad H locs ls cells slots hA
  have h : (v.toList.map (kn_cv ad ar)) = (v.map (kn_cv ad ar)).toList := by cases v <;> rfl
  rw [h]
  exact Cx.2.1.1 v σ τ z ad H locs ls cells slots pc I hd hr hQ hA.1 hA.2.2.1 hA.2.2.2.1 (by have := hA.2.1.1; omega) (by have := hA.2.1.2; omega)
theorem k_iret {x : Int32} {ty : FieldType} (hd : decode M.2.1 pc = .ok (.ireturn, 1)) (hr : M.2.2.2.1 = some ty) (hn : narrow ty (.int x) = .int x) (hQ : Q (.inl (some (.int x))) σ τ z) : kn_Go X M pc lv [.int x] σ τ z c n Q := k_end (v := some (.int x)) hd ⟨ty, hr, hn⟩ hQ
theorem k_lret {x : Int64} (hd : decode M.2.1 pc = .ok (.lreturn, 1)) (hr : M.2.2.2.1 = some .long) (hQ : Q (.inl (some (.long x))) σ τ z) : kn_Go X M pc lv [.long x] σ τ z c n Q := k_end (v := some (.long x)) hd hr hQ
theorem k_dret {x : UInt64} (hd : decode M.2.1 pc = .ok (.dreturn, 1)) (hr : M.2.2.2.1 = some .double) (hQ : Q (.inl (some (.double x))) σ τ z) : kn_Go X M pc lv [.double x] σ τ z c n Q := k_end (v := some (.double x)) hd hr hQ
theorem k_aret {x : Nat} {C : String} (hd : decode M.2.1 pc = .ok (.areturn, 1)) (hr : M.2.2.2.1 = some (.object C)) (hQ : Q (.inl (some (.ref x))) σ τ z) : kn_Go X M pc lv [.ref x] σ τ z c n Q := k_end (v := some (.ref x)) hd ⟨C, hr⟩ hQ
theorem k_aretN {C : String} (hd : decode M.2.1 pc = .ok (.areturn, 1)) (hr : M.2.2.2.1 = some (.object C)) (hQ : Q (.inl (some .null)) σ τ z) : kn_Go X M pc lv [.null] σ τ z c n Q := k_end (v := some .null) hd ⟨C, hr⟩ hQ
theorem k_vret (hd : decode M.2.1 pc = .ok (.return_, 1)) (hr : M.2.2.2.1 = none) (hQ : Q (.inl none) σ τ z) : kn_Go X M pc lv [] σ τ z c n Q := k_end (v := none) hd hr hQ
theorem k_thOut {E : String} (hM : M.2.2.2.2.1 = []) (hQ : Q (.inr E) σ τ z) : kn_Th X M pc lv E σ τ z c n Q := by
  intro D cs z0 ar p l e R s m args below meth cd n0 a0 mc ms QF Cx ad H locs ls cells slots hA q ce rest hq hv hcl
  refine Cx.2.1.2 E σ τ z ad H locs ls rest cells slots pc q ce ?_ hQ hA.1 hA.2.2.1 hA.2.2.2.1 (by have := hA.2.1.1; omega) (by have := hA.2.1.2; omega) hq hv hcl
  intro x hx
  rw [Cx.1.2.1.2.2.2.1, hM] at hx
  cases hx
/-- the same judgement for fewer locals, for a weaker end, for more room -/
theorem k_sub {lv' : kn_L} {st : List Value} (h : ∀ q ∈ lv', q ∈ lv) (k : kn_Go X M pc lv' st σ τ z c n Q) : kn_Go X M pc lv st σ τ z c n Q := by
  intro D cs z0 ar p l e R s m args below meth cd n0 a0 mc ms QF Cx ad H locs ls cells slots hA
  exact k D cs z0 ar p l e R s m args below meth cd n0 a0 mc ms QF Cx ad H locs ls cells slots ⟨hA.1, hA.2.1, hA.2.2.1, hA.2.2.2.1, kn_lsub hA.2.2.2.2 h⟩
theorem k_room {c' n' : Nat} {st : List Value} (h1 : c' ≤ c) (h2 : n' ≤ n) (k : kn_Go X M pc lv st σ τ z c' n' Q) : kn_Go X M pc lv st σ τ z c n Q := by
  intro D cs z0 ar p l e R s m args below meth cd n0 a0 mc ms QF Cx ad H locs ls cells slots hA
  exact k D cs z0 ar p l e R s m args below meth cd n0 a0 mc ms QF Cx ad H locs ls cells slots ⟨hA.1, ⟨by have := hA.2.1.1; omega, by have := hA.2.1.2; omega⟩, hA.2.2⟩
/-- how the caller goes on behind a call that makes no cell of the world -/
abbrev kn_K (X : kn_X) (M : kn_M) (pc : Nat) (lv : kn_L) (rest : List Value) (N : Nat) (c n : Nat) (Q : kn_Q) : kn_Q := fun o σ τ z => z.1 = N ∧ match o with
  | .inl none => kn_Go X M (pc + 3) lv rest σ τ z c n Q
  | .inl (some v) => kn_Go X M (pc + 3) lv (v :: rest) σ τ z c n Q
  | .inr E => kn_Th X M pc lv E σ τ z c n Q
def kn_vok (N : Nat) (vs : List Value) : Prop := ∀ r, Value.ref r ∈ vs → r < N
theorem kn_vok_map {N : Nat} {vs : List Value} {ad ad' ar : Nat → Nat} (h : kn_vok N vs) (ha : ∀ i, i < N → ad' i = ad i) : vs.map (kn_cv ad' ar) = vs.map (kn_cv ad ar) := by
  refine List.map_congr_left fun v hv => ?_
  cases v <;> try rfl
  rename_i r
  show Value.ref (ad' r) = Value.ref (ad r)
  rw [ha r (h r hv)]
theorem kn_vok_lc {N : Nat} {lv : kn_L} {ad ad' ar : Nat → Nat} (h : kn_vok N (lv.map (fun q => q.2))) (ha : ∀ i, i < N → ad' i = ad i) : kn_lc ad' ar lv = kn_lc ad ar lv := by
  refine List.map_congr_left fun q hq => ?_
  have h1 := kn_vok_map (vs := [q.2]) (ar := ar) (fun r hr => h r (List.mem_map.mpr ⟨q, hq, (List.mem_singleton.mp hr).symm⟩)) ha
  simp only [List.map_cons, List.map_nil, List.cons.injEq, and_true] at h1
  rw [h1]
/-- .. behind one that may make cells: what the caller holds is of cells that were there -/
abbrev kn_KN (X : kn_X) (M : kn_M) (pc : Nat) (lv : kn_L) (rest : List Value) (c n : Nat) (Q : kn_Q) : kn_Q := fun o σ τ z => match o with
  | .inl none => kn_Go X M (pc + 3) lv rest σ τ z c n Q
  | .inl (some v) => kn_Go X M (pc + 3) lv (v :: rest) σ τ z c n Q
  | .inr E => kn_Th X M pc lv E σ τ z c n Q
theorem kn_after {D : va_G} {cs : Nat → ClassId} {z0 : Nat} {ar : Nat → Nat} {p : Program} {l : Launch} {e : Env} {R : Room} {s : State} {m : MethodId} {args : Array Value} {below : List Frame} {meth : Method} {cd : Code} {n0 : Nat} {a0 : Nat → Nat} {mc ms : Nat} {QF : State → Prop}
    (Cx : kn_Cx X M D cs z0 ar p l e R s m args below meth cd n0 a0 mc ms QF Q) {ad : Nat → Nat} {H : Heap} {locs : List Loc} {ls : Array Slot} {cells slots : Nat} (hA : kn_At M lv σ τ z c n D cs z0 ar s n0 a0 mc ms ad H locs ls cells slots)
    {c1 n1 : Nat} (h1 : c1 ≤ c) (h2 : n1 ≤ n) {rest st0 : List Value} {a : Array Value} {Q' : kn_Q} (hk : ∀ (ad' : Nat → Nat) (o : kn_O) (σ' : kn_S) (τ' : kn_T) (z' : kn_Z), Q' o σ' τ' z' → kn_Ad z.1 ad z' ad' → kn_KN X M pc lv rest (c - c1) (n - n1) Q o σ' τ' z' ∧ rest.map (kn_cv ad' ar) = rest.map (kn_cv ad ar) ∧ kn_lc ad' ar lv = kn_lc ad ar lv)
    (hr : vx_Run p l e R s m args below meth cd H locs cells slots c1 n1 (F0 m pc ls st0) (rest.map (kn_cv ad ar)) (kn_Qc D cs z0 ar ad z.1 Q' a) (kn_XC D cs z0 ad z.1 Q') (kn_A z0)) :
    W p l e R s m args below meth cd H locs cells slots QF (F0 m pc ls st0) := by
  have hsz : z0 ≤ H.size := (Cx.1.2.2.2.2.kept hA.2.2.2.1).2.2.2.2.2.2
  have key : ∀ (ad' : Nat → Nat) (z' : kn_Z), kn_Ad z.1 ad z' ad' → kn_Ad n0 a0 z' ad' := by
    intro ad' z' h
    obtain ⟨b1, b2, b3⟩ := h
    obtain ⟨d1, d2, d3⟩ := hA.1
    refine ⟨Nat.le_trans d1 b1, fun i hi => (b2 i (Nat.lt_of_lt_of_le hi d1)).trans (d2 i hi), fun hz => ?_⟩
    have h5 : z'.1 = z.1 := by omega
    rw [b3 h5, d3 (by omega)]
  intro T hT Xs
  rcases hr T hT Xs with ⟨v, st₀, t, T', L, h0, X', hL, e1, e2, ⟨v', ad', σ', τ', z', hv, hQ, hAd, hWd, hF⟩, st⟩ | ⟨q, st₀, t, T', L, E, ce, h0, X', hL, e1, e2, ⟨ad', σ', τ', z', hQ, hAd, hWd, hF⟩, hce, hcv, hcl, st⟩
  · cases hv
    obtain ⟨k1, k2, k3⟩ := vx_keep (A0 := kn_A z0) (A1 := kn_A z0) h0 e1 hA.2.2.2.1 (fun _ _ h => h) (fun _ h => h) hL hF
    obtain ⟨g1, g2, g3⟩ := hk ad' (.inl v') σ' τ' z' hQ hAd
    have hA' : kn_At M lv σ' τ' z' (c - c1) (n - n1) D cs z0 ar s n0 a0 mc ms ad' T'.heap (locs ++ L) ls (cells + c1) (slots + n1) :=
      ⟨key ad' z' hAd, ⟨by have := hA.2.1.1; omega, by have := hA.2.1.2; omega⟩, by rw [e1]; exact hWd, k3, by rw [g3]; exact hA.2.2.2.2⟩
    cases v' with
    | none =>
      obtain ⟨t2, a1, b1⟩ := g1 D cs z0 ar p l e R s m args below meth cd n0 a0 mc ms QF Cx ad' T'.heap (locs ++ L) ls (cells + c1) (slots + n1) hA' T' rfl X'
      rw [g2] at a1
      exact ⟨t2, st t2 a1, b1⟩
    | some w =>
      obtain ⟨t2, a1, b1⟩ := g1 D cs z0 ar p l e R s m args below meth cd n0 a0 mc ms QF Cx ad' T'.heap (locs ++ L) ls (cells + c1) (slots + n1) hA' T' rfl X'
      rw [List.map_cons, g2] at a1
      exact ⟨t2, st t2 a1, b1⟩
  · obtain ⟨k1, k2, k3⟩ := vx_keep (A0 := kn_A z0) (A1 := kn_A z0) h0 e1 hA.2.2.2.1 (fun _ _ h => h) (fun _ h => h) hL hF
    obtain ⟨g1, g2, g3⟩ := hk ad' (.inr E) σ' τ' z' hQ hAd
    have hA' : kn_At M lv σ' τ' z' (c - c1) (n - n1) D cs z0 ar s n0 a0 mc ms ad' T'.heap (locs ++ L) ls (cells + c1) (slots + n1) :=
      ⟨key ad' z' hAd, ⟨by have := hA.2.1.1; omega, by have := hA.2.1.2; omega⟩, by rw [e1]; exact hWd, k3, by rw [g3]; exact hA.2.2.2.2⟩
    obtain ⟨t2, a1, b1⟩ := g1 D cs z0 ar p l e R s m args below meth cd n0 a0 mc ms QF Cx ad' T'.heap (locs ++ L) ls (cells + c1) (slots + n1) hA' q ce (rest.map (kn_cv ad ar)) (by rw [e1]; exact hce) hcv hcl T' rfl X'
    exact ⟨t2, st.trans a1, b1⟩
end KNE

