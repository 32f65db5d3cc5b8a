-- a final field of a reference, put by its constructor
abbrev kn_zP (z : kn_Z) (i ci : Nat) (ds : List (Option Value)) : kn_Z := (z.1, fun j => if j = i then .inl (ci, ds) else z.2 j)
theorem kn_fs_setR {ad : Nat → Nat} {s : kn_S} {t : kn_T} {i k r : Nat} {ds : List (Option Value)} (hk : k < ds.length) : kn_fs ad s t i (ds.set k (some (.ref r))) = (kn_fs ad s t i ds).set k (.ref (ad r)) := by
  refine List.ext_getElem? fun j => ?_
  unfold kn_fs
  rw [List.getElem?_mapIdx, List.getElem?_set, List.getElem?_set, List.getElem?_mapIdx, List.length_mapIdx]
  by_cases h : k = j
  · subst h
    rw [if_pos rfl, if_pos hk, if_pos rfl, if_pos hk]
    rfl
  · rw [if_neg h, if_neg h]
theorem k_putfieldR {X : kn_X} {M : kn_M} {pc : Nat} {lv : kn_L} {σ : kn_S} {τ : kn_T} {z : kn_Z} {c n : Nat} {Q : kn_Q} {st : List Value} {i idx ci N r : Nat} {C : String} {T : u_T} {ty : Nat → FieldType} {ds : List (Option Value)} {d : Option Value} {t9 : FieldType} (hd : decode M.2.1 pc = .ok (.putfield idx, 3)) (hc : kn_cf ci C T N ty) (hi : i < z.1) (hz : z.2 i = .inl (ci, ds)) (hr : r < z.1) (k : Nat) (hk : k < N) (hL : Cond.fieldLink M.1.cls idx (T k).1 (T k).2.1 (T k).2.2.1 ∈ kn_ws) (hdk : ds[k]? = some d) (hfin : (T k).2.2.2 = true) (hm : M.1.name = "<init>") (hdecl : (T k).1 = M.1.cls) (ht : parseFieldDescriptor (T k).2.2.1 = some t9) (hn : ∀ a, narrow t9 (.ref a) = .ref a) (hf : ∀ a, fits t9 (.ref a) = true)
    (kk : kn_Go X M (pc + 3) lv st σ τ (kn_zP z i ci (ds.set k (some (.ref r)))) c n Q) : kn_Go X M pc lv (.ref r :: .ref i :: st) σ τ z c n Q := by
  intro D cs z0 ar p l e_ R s m args below meth cd n0 a0 mc ms QF Cx ad H locs ls cells slots hA
  have hkl : k < ds.length := (List.getElem?_eq_some_iff.mp hdk).1
  refine va_putF Cx.1.1.1 Cx.1.1.2.1 Cx.1.1.2.2.2.2 hc.2.1 ty hc.2.2.1 hc.2.2.2 Cx.1.1.2.2.2.1 Cx.1.2.2.2.1 hA.2.2.1.1 hA.2.2.1.2.1 hA.2.2.2.1 i (by rw [kn_wl_get hi, kn_ent_ob hz]) hc.1 k hk (Cx.1.1.2.2.2.2 _ hL) (fun _ h9 => h9) hfin (Cx.1.2.1.2.2.2.2 hm) hdecl ht (hn _) (hf _) (by rw [kn_fs_len]; exact hkl) hd (fun H1 locs1 hP hD hS => ?_)
  have he : kn_ent cs ad σ τ (kn_zP z i ci (ds.set k (some (.ref r)))) i = .inr (ci, (kn_fs ad σ τ i ds).set k (.ref (ad r))) := by
    have e1 : (kn_zP z i ci (ds.set k (some (.ref r)))).2 i = .inl (ci, ds.set k (some (.ref r))) := if_pos rfl
    rw [kn_ent_ob e1, kn_fs_setR hkl]
  have e := kn_wl_set (cs := cs) (ad := ad) (s := σ) (t := τ) (s' := σ) (t' := τ) (z := z) (z' := kn_zP z i ci (ds.set k (some (.ref r)))) rfl he (fun j _ hj => by
    have e1 : (kn_zP z i ci (ds.set k (some (.ref r)))).2 j = z.2 j := if_neg hj
    unfold kn_ent
    rw [e1])
  have hvz : kn_vz (kn_zP z i ci (ds.set k (some (.ref r)))) := by
    intro j hj
    by_cases h : j = i
    · subst h
      have e1 : (kn_zP z j ci (ds.set k (some (.ref r)))).2 j = .inl (ci, ds.set k (some (.ref r))) := if_pos rfl
      rw [e1]
      intro r' hr'
      have h2 := hA.2.2.1.2.2 j hi
      rw [hz] at h2
      rcases List.mem_or_eq_of_mem_set hr' with q | q
      · exact h2 r' q
      · cases q; exact hr
    · have e1 : (kn_zP z i ci (ds.set k (some (.ref r)))).2 j = z.2 j := if_neg h
      rw [e1]
      exact hA.2.2.1.2.2 j hj
  refine kk D cs z0 ar p l e_ R s m args below meth cd n0 a0 mc ms QF Cx ad H1 locs1 ls cells slots ⟨⟨hA.1.1, hA.1.2.1, hA.1.2.2⟩, hA.2.1, ⟨by rw [← e]; exact hP, by rw [← e]; exact hD, hvz⟩, hS, hA.2.2.2.2⟩

