-- new cells
theorem kn_wl_app {cs : Nat → ClassId} {ad ad' : Nat → Nat} {s s' : kn_S} {t t' : kn_T} {z z' : kn_Z} {q : Nat} {e : va_E} (h1 : z'.1 = z.1 + 1) (ha : ∀ i, i < z.1 → ad' i = ad i) (hq : ad' z.1 = q) (he : kn_ent cs ad' s' t' z' z.1 = e) (ho : ∀ i, i < z.1 → kn_ent cs ad' s' t' z' i = kn_ent cs ad s t z i) : kn_wl cs ad' s' t' z' = kn_wl cs ad s t z ++ [(q, e)] := by
  unfold kn_wl
  rw [h1, List.range_succ, List.map_append]
  congr 1
  · refine List.map_congr_left (fun i hi => ?_)
    have := List.mem_range.mp hi
    rw [ha i this, ho i this]
  · simp [hq, he]
theorem kn_ent_ad {cs : Nat → ClassId} {ad ad' : Nat → Nat} {s s' : kn_S} {t t' : kn_T} {z z' : kn_Z} {i : Nat} (hz : kn_vz z) (hi : i < z.1) (ha : ∀ i, i < z.1 → ad' i = ad i) (e1 : z'.2 i = z.2 i) (e2 : s' i = s i) (e3 : t' i = t i) : kn_ent cs ad' s' t' z' i = kn_ent cs ad s t z i := by
  have h := hz i hi
  unfold kn_ent
  rw [e1]
  cases hf : z.2 i with
  | inl q =>
    obtain ⟨ci, ds⟩ := q
    rw [hf] at h
    dsimp only at h ⊢
    congr 2
    unfold kn_fs
    refine List.ext_getElem? fun k => ?_
    rw [List.getElem?_mapIdx, List.getElem?_mapIdx]
    cases hk : ds[k]? with
    | none => rfl
    | some d =>
      show some _ = some _
      congr 1
      cases d with
      | none => show Value.int _ = Value.int _; rw [e2]
      | some v =>
        cases v with
        | ref r => show Value.ref _ = Value.ref _; rw [ha r (h r (List.mem_of_getElem? hk))]
        | long x => show Value.long _ = Value.long _; rw [e3]
        | _ => rfl
  | inr q =>
    cases q with
    | inl q => 
      obtain ⟨k, n⟩ := q
      rw [e2, e3]
      rcases k with _ | _ | k <;> rfl
    | inr l =>
      rw [hf] at h
      dsimp only at h ⊢
      have e9 : (fun j => kn_rf ad' (l.getD j .null)) = (fun j => kn_rf ad (l.getD j .null)) := by
        funext j
        cases hj : l[j]? with
        | none => rw [List.getD_eq_getElem?_getD, hj]; rfl
        | some v =>
          rw [List.getD_eq_getElem?_getD, hj]
          show kn_rf ad' v = kn_rf ad v
          cases v with
          | ref r => show some _ = some _; rw [ha r (h r (List.mem_of_getElem? hj))]
          | _ => rfl
      rw [e9]
/-- a new object of class ci: its fields hold what fields start with -/
def kn_df (d : Option Value) : Value := match d with
  | none => .int 0
  | some (.long _) => .long 0
  | some _ => .null
abbrev kn_zS (s : kn_S) (N : Nat) : kn_S := fun b k => if b = N then 0 else s b k
abbrev kn_zT (t : kn_T) (N : Nat) : kn_T := fun b k => if b = N then 0 else t b k
abbrev kn_zZ (z : kn_Z) (f : (Nat × List (Option Value)) ⊕ ((Nat × Nat) ⊕ List Value)) : kn_Z := (z.1 + 1, fun i => if i = z.1 then f else z.2 i)
abbrev kn_aN (ad : Nat → Nat) (N q : Nat) : Nat → Nat := fun i => if i = N then q else ad i
theorem kn_lc_aN {lv : kn_L} {N q : Nat} {ad ar : Nat → Nat} (h : kn_vok N (lv.map (fun q => q.2))) : kn_lc (kn_aN ad N q) ar lv = kn_lc ad ar lv := by
  refine List.map_congr_left (fun x hx => ?_)
  have h1 : ∀ r, x.2 = .ref r → r < N := fun r hr => h r (hr ▸ List.mem_map.mpr ⟨x, hx, rfl⟩)
  cases hv : x.2 with
  | ref r =>
    have := h1 r hv
    show (x.1, Value.ref (kn_aN ad N q r)) = (x.1, Value.ref (ad r))
    rw [kn_aN, if_neg (Nat.ne_of_lt this)]
  | _ => rfl
theorem kn_Ad_aN {n0 : Nat} {a0 ad : Nat → Nat} {z : kn_Z} {q : Nat} {f : (Nat × List (Option Value)) ⊕ ((Nat × Nat) ⊕ List Value)} (h : kn_Ad n0 a0 z ad) : kn_Ad n0 a0 (kn_zZ z f) (kn_aN ad z.1 q) := by
  refine ⟨Nat.le_succ_of_le h.1, fun i hi => ?_, fun e => ?_⟩
  · have := h.1
    rw [kn_aN, if_neg (by omega)]
    exact h.2.1 i hi
  · have := h.1
    have e : z.1 + 1 = n0 := e
    omega
theorem k_new {X : kn_X} {M : kn_M} {pc : Nat} {lv : kn_L} {σ : kn_S} {τ : kn_T} {z : kn_Z} {c n : Nat} {Q : kn_Q} {st : List Value} {idx ci N : Nat} {C : String} {T : u_T} {ty : Nat → FieldType} {ds : List (Option Value)} (hd : decode M.2.1 pc = .ok (.new idx, 3)) (hc : kn_cf ci C T N ty) (hL : Cond.classLink M.1.cls idx C ∈ kn_ws) (hI : Cond.instantiable C N ∈ kn_ws) (hini : Cond.initialized C ∈ kn_ws)
    (hds : ∀ j, j < N → ∃ d, ds[j]? = some d ∧ defaultValue (ty j) = kn_df d) (hnr : ∀ r, some (Value.ref r) ∉ ds) (v1 : kn_vok z.1 st) (v2 : kn_vok z.1 (lv.map (fun q => q.2)))
    (k : kn_Go X M (pc + 3) lv (.ref z.1 :: st) (kn_zS σ z.1) (kn_zT τ z.1) (kn_zZ z (.inl (ci, ds))) c n Q) : kn_Go X M pc lv st σ τ z (c + 1) (n + N) Q := by
  intro D cs z0 ar p l e_ R s m args below meth cd n0 a0 mc ms QF Cx ad H locs ls cells slots hA
  have hts := Cx.1.1.2.2.2.2
  have hgt : ∀ {q j : Nat} {d : Option Value}, ds[j]? = some d → (kn_fs (kn_aN ad z.1 q) (kn_zS σ z.1) (kn_zT τ z.1) z.1 ds)[j]? = some (kn_df d) := by
    intro q j d hj
    rw [kn_fs_get hj]
    congr 1
    cases d with
    | none => show Value.int (kn_zS σ z.1 z.1 j) = .int 0; rw [kn_zS, if_pos rfl]
    | some v =>
      cases v with
      | ref r => exact absurd (List.mem_of_getElem? hj) (hnr r)
      | long x => show Value.long (kn_zT τ z.1 z.1 j) = .long 0; rw [kn_zT, if_pos rfl]
      | _ => rfl
  refine va_new (fs := kn_fs (kn_aN ad z.1 0) (kn_zS σ z.1) (kn_zT τ z.1) z.1 ds) Cx.1.1.1 Cx.1.1.2.1 hts hc.2.1 ty hc.2.2.1 Cx.1.1.2.2.2.1 (hts _ hL) (hts _ hI) (hts _ hini) Cx.1.2.2.2.1 hA.2.2.1.1 hA.2.2.1.2.1 hA.2.2.2.1 (fun q hq => Nat.le_trans Cx.1.2.2.2.2.2.2.2.2.2.2 hq) hc.1 (fun j hj => ?_) (by have := hA.2.1.1; have := Cx.2.2.1; omega) (by have := hA.2.1.2; have := Cx.2.2.2; omega) hd (fun q H1 hP hD hS => ?_)
  · obtain ⟨d, h1, h2⟩ := hds j hj
    rw [h2, vp_V, List.getD_eq_getElem?_getD, hgt h1]
    rfl
  · have hne : ∀ i, i < z.1 → ¬ i = z.1 := fun i hi => Nat.ne_of_lt hi
    have hq : kn_aN ad z.1 q z.1 = q := if_pos rfl
    have ha : ∀ i, i < z.1 → kn_aN ad z.1 q i = ad i := fun i hi => if_neg (hne i hi)
    have he : kn_ent cs (kn_aN ad z.1 q) (kn_zS σ z.1) (kn_zT τ z.1) (kn_zZ z (.inl (ci, ds))) z.1 = .inr (ci, kn_fs (kn_aN ad z.1 0) (kn_zS σ z.1) (kn_zT τ z.1) z.1 ds) := by
      have e1 : (kn_zZ z (.inl (ci, ds))).2 z.1 = .inl (ci, ds) := if_pos rfl
      unfold kn_ent
      rw [e1]
      show Sum.inr (ci, _) = Sum.inr (ci, _)
      congr 2
      refine List.ext_getElem? fun j => ?_
      cases hj : ds[j]? with
      | none =>
        have h1 : ds.length ≤ j := List.getElem?_eq_none_iff.mp hj
        rw [List.getElem?_eq_none_iff.mpr (by rw [kn_fs_len]; exact h1), List.getElem?_eq_none_iff.mpr (by rw [kn_fs_len]; exact h1)]
      | some d => rw [hgt hj, hgt hj]
    have e := kn_wl_app (cs := cs) (z := z) (z' := kn_zZ z (.inl (ci, ds))) (ad := ad) (s := σ) (t := τ) rfl ha hq he (fun i hi => kn_ent_ad hA.2.2.1.2.2 hi ha (if_neg (hne i hi)) (by funext b; exact if_neg (hne i hi)) (by funext b; exact if_neg (hne i hi)))
    have hvz : kn_vz (kn_zZ z (.inl (ci, ds))) := by
      intro i hi
      by_cases h : i = z.1
      · have e1 : (kn_zZ z (.inl (ci, ds))).2 i = .inl (ci, ds) := if_pos h
        rw [e1]
        exact fun r hr => absurd hr (hnr r)
      · have e1 : (kn_zZ z (.inl (ci, ds))).2 i = z.2 i := if_neg h
        rw [e1]
        have hi' : i < z.1 + 1 := hi
        have h2 := hA.2.2.1.2.2 i (by omega)
        cases hf : z.2 i with
        | inl x => rw [hf] at h2; exact fun r hr => Nat.lt_succ_of_lt (h2 r hr)
        | inr x =>
          cases x with
          | inl x => trivial
          | inr x => rw [hf] at h2; exact fun r hr => Nat.lt_succ_of_lt (h2 r hr)
    have es : (Value.ref z.1 :: st).map (kn_cv (kn_aN ad z.1 q) ar) = Value.ref q :: st.map (kn_cv ad ar) := by
      rw [List.map_cons, kn_vok_map v1 ha]
      show Value.ref (kn_aN ad z.1 q z.1) :: _ = _
      rw [hq]
    rw [← es]
    refine k D cs z0 ar p l e_ R s m args below meth cd n0 a0 mc ms QF Cx (kn_aN ad z.1 q) H1 locs ls (cells + 1) (slots + N) ⟨kn_Ad_aN hA.1, ⟨by have := hA.2.1.1; omega, by have := hA.2.1.2; omega⟩, ⟨by rw [e]; exact hP, by rw [e]; exact hD, hvz⟩, hS, ?_⟩
    rw [kn_lc_aN v2]
    exact hA.2.2.2.2

