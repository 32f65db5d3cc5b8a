-- rows of the heap
/-- a class of the tables: its place, its fields -/
def kn_cf (ci : Nat) (C : String) (T : u_T) (N : Nat) (ty : Nat → FieldType) : Prop :=
  vwCl[ci]? = some (C, T, N) ∧ (∀ w ∈ u_ws C T N, w ∈ kn_ws) ∧ (∀ k, k < N → parseFieldDescriptor (T k).2.2.1 = some (ty k)) ∧ (∀ a, a < N → ∀ b, b < N → a ≠ b → (T a).2.1 ≠ (T b).2.1)
def kn_up (s : kn_S) (i k : Nat) (x : Int32) : kn_S := fun a b => if a = i ∧ b = k then x else s a b
def kn_upT (t : kn_T) (i k : Nat) (x : Int64) : kn_T := fun a b => if a = i ∧ b = k then x else t a b
theorem kn_up_row (s : kn_S) (i k : Nat) (x : Int32) : kn_up s i k x i = upd (s i) k x := by
  funext j
  simp [kn_up, upd]
theorem kn_up_ne (s : kn_S) {i j : Nat} (k : Nat) (x : Int32) (h : j ≠ i) : kn_up s i k x j = s j := by
  funext a
  simp [kn_up, h]
theorem kn_upT_row (s : kn_T) (i k : Nat) (x : Int64) : kn_upT s i k x i = vp_updL (s i) k x := by
  funext j
  simp [kn_upT, vp_updL]
theorem kn_upT_ne (s : kn_T) {i j : Nat} (k : Nat) (x : Int64) (h : j ≠ i) : kn_upT s i k x j = s j := by
  funext a
  simp [kn_upT, h]
theorem kn_fs_eq {ad : Nat → Nat} {s s' : kn_S} {t t' : kn_T} {j : Nat} (h1 : s' j = s j) (h2 : t' j = t j) (ds : List (Option Value)) : kn_fs ad s' t' j ds = kn_fs ad s t j ds := by
  refine List.ext_getElem? fun k => ?_
  simp only [kn_fs, List.getElem?_mapIdx]
  congr 1
  funext d
  cases d with
  | none => simp [kn_av, h1]
  | some v => cases v <;> simp [kn_av, h2]
theorem kn_ent_eq {cs : Nat → ClassId} {ad : Nat → Nat} {s s' : kn_S} {t t' : kn_T} {z : kn_Z} {j : Nat} (h1 : s' j = s j) (h2 : t' j = t j) : kn_ent cs ad s' t' z j = kn_ent cs ad s t z j := by
  unfold kn_ent
  rcases h : z.2 j with ⟨ci, ds⟩ | ⟨tg, n⟩ | l
  · simp only [kn_fs_eq h1 h2]
  · match tg with
    | 0 => simp only [h1]
    | 1 => simp only [h2]
    | _ + 2 => simp only [h2]
  · rfl
theorem kn_ent_ob {cs : Nat → ClassId} {ad : Nat → Nat} {s : kn_S} {t : kn_T} {z : kn_Z} {i ci : Nat} {ds : List (Option Value)} (hz : z.2 i = .inl (ci, ds)) : kn_ent cs ad s t z i = .inr (ci, kn_fs ad s t i ds) := by simp [kn_ent, hz]
theorem kn_ent_ia {cs : Nat → ClassId} {ad : Nat → Nat} {s : kn_S} {t : kn_T} {z : kn_Z} {i n : Nat} (hz : z.2 i = .inr (.inl (0, n))) : kn_ent cs ad s t z i = .inl (cs 0, n, .inl (s i)) := by simp [kn_ent, hz]
theorem kn_ent_la {cs : Nat → ClassId} {ad : Nat → Nat} {s : kn_S} {t : kn_T} {z : kn_Z} {i n : Nat} (hz : z.2 i = .inr (.inl (1, n))) : kn_ent cs ad s t z i = .inl (cs 2, n, .inr (.inl (t i))) := by simp [kn_ent, hz]
theorem kn_ent_da {cs : Nat → ClassId} {ad : Nat → Nat} {s : kn_S} {t : kn_T} {z : kn_Z} {i n : Nat} (hz : z.2 i = .inr (.inl (2, n))) : kn_ent cs ad s t z i = .inl (cs 3, n, .inr (.inr (.inr (.inl (fun j => (t i j).toUInt64))))) := by simp [kn_ent, hz]
theorem kn_ent_ra {cs : Nat → ClassId} {ad : Nat → Nat} {s : kn_S} {t : kn_T} {z : kn_Z} {i : Nat} {l : List Value} (hz : z.2 i = .inr (.inr l)) : kn_ent cs ad s t z i = .inl (cs 1, l.length, .inr (.inr (.inr (.inr (fun j => kn_rf ad (l.getD j .null)))))) := by simp [kn_ent, hz]
/-- what a cell's new contents make of the world -/
theorem kn_Wd.put {D : va_G} {cs : Nat → ClassId} {z0 : Nat} {ad : Nat → Nat} {s s' : kn_S} {t t' : kn_T} {z : kn_Z} {H1 : Heap} {i : Nat} {e : va_E} (hv : kn_vz z) (he : kn_ent cs ad s' t' z i = e) (h1 : ∀ j, j ≠ i → s' j = s j) (h2 : ∀ j, j ≠ i → t' j = t j)
    (hP : va_P D vwCl ((kn_wl cs ad s t z).set i (ad i, e)) H1) (hD : va_D (kn_A z0) ((kn_wl cs ad s t z).set i (ad i, e))) : kn_Wd D cs z0 ad s' t' z H1 := by
  rw [kn_wl_set (z' := z) rfl he (fun j _ hj => kn_ent_eq (h1 j hj) (h2 j hj))] at hP hD
  exact ⟨hP, hD, hv⟩
theorem kn_fs_set {ad : Nat → Nat} {s s' : kn_S} {t t' : kn_T} {i k : Nat} {v : Value} {ds ds' : List (Option Value)} (hl : ds'.length = ds.length) (hk : (kn_fs ad s' t' i ds')[k]? = if k < ds.length then some v else none) (ho : ∀ j, j ≠ k → (kn_fs ad s' t' i ds')[j]? = (kn_fs ad s t i ds)[j]?) : kn_fs ad s' t' i ds' = (kn_fs ad s t i ds).set k v := by
  refine List.ext_getElem? fun j => ?_
  by_cases hj : j = k
  · subst hj
    rw [hk, List.getElem?_set, if_pos rfl, kn_fs_len]
  · rw [ho j hj, List.getElem?_set_ne (Ne.symm hj)]
theorem kn_fs_at {ad : Nat → Nat} {s s' : kn_S} {t t' : kn_T} {i j : Nat} (h1 : s' i j = s i j) (h2 : t' i j = t i j) (ds : List (Option Value)) : (kn_fs ad s' t' i ds)[j]? = (kn_fs ad s t i ds)[j]? := by
  simp only [kn_fs, List.getElem?_mapIdx]
  cases ds[j]? with
  | none => rfl
  | some d =>
    cases d with
    | none => simp [kn_av, h1]
    | some v => cases v <;> simp [kn_av, h2]
section KNH
variable {X : kn_X} {M : kn_M} {pc : Nat} {lv : kn_L} {σ : kn_S} {τ : kn_T} {z : kn_Z} {c n : Nat} {Q : kn_Q} {ci i k N idx : Nat} {C : String} {T : u_T} {ty : Nat → FieldType} {ds : List (Option Value)} {st : List Value} {d : Option Value}
theorem k_getfield (hd : decode M.2.1 pc = .ok (.getfield idx, 3)) (hc : kn_cf ci C T N ty) (hi : i < z.1) (hz : z.2 i = .inl (ci, ds)) (k : Nat) (hk : k < N) (hL : Cond.fieldLink M.1.cls idx (T k).1 (T k).2.1 (T k).2.2.1 ∈ kn_ws) (hdk : ds[k]? = some d)
    (kk : kn_Go X M (pc + 3) lv (kn_av σ τ i k d :: st) σ τ z c n Q) : kn_Go X M pc lv (.ref i :: st) σ τ z c n Q := by
  intro D cs z0 ar p l e R s m args below meth cd n0 a0 mc ms QF Cx ad H locs ls cells slots hA
  have hcv : kn_cv ad ar (kn_av σ τ i k d) = kn_cv ad ad (kn_av σ τ i k d) := by
    cases d with
    | none => rfl
    | some v => cases v <;> rfl
  have h := kk D cs z0 ar p l e R s m args below meth cd n0 a0 mc ms QF Cx ad H locs ls cells slots hA
  rw [List.map_cons, hcv] at h
  exact va_get Cx.1.1.1 Cx.1.1.2.1 Cx.1.1.2.2.2.2 hc.2.1 Cx.1.1.2.2.2.1 Cx.1.2.2.2.1 hA.2.2.1.1 i (by rw [kn_wl_get hi, kn_ent_ob hz]) hc.1 k hk (Cx.1.1.2.2.2.2 _ hL) (fun _ h9 => h9) (kn_fs_get hdk) hd h
theorem k_getfieldN {host : String} (hd : decode M.2.1 pc = .ok (.getfield idx, 3)) (hc : kn_cf ci C T N ty) (hi : i < z.1) (hz : z.2 i = .inl (ci, ds)) (k : Nat) (hk : k < N) (hL : Cond.fieldLinkNest M.1.cls idx (T k).1 (T k).2.1 (T k).2.2.1 host ∈ kn_bad) (hdk : ds[k]? = some d)
    (kk : kn_Go X M (pc + 3) lv (kn_av σ τ i k d :: st) σ τ z c n Q) : kn_Go X M pc lv (.ref i :: st) σ τ z c n Q := by
  intro D cs z0 ar p l e R s m args below meth cd n0 a0 mc ms QF Cx ad H locs ls cells slots hA
  have hcv : kn_cv ad ar (kn_av σ τ i k d) = kn_cv ad ad (kn_av σ τ i k d) := by
    cases d with
    | none => rfl
    | some v => cases v <;> rfl
  have h := kk D cs z0 ar p l e R s m args below meth cd n0 a0 mc ms QF Cx ad H locs ls cells slots hA
  rw [List.map_cons, hcv] at h
  exact va_getN Cx.1.1.1 Cx.1.1.2.1 Cx.1.1.2.2.2.2 hc.2.1 Cx.1.1.2.2.2.1 Cx.1.2.2.2.1 hA.2.2.1.1 i (by rw [kn_wl_get hi, kn_ent_ob hz]) hc.1 k hk (kn_bad_use (List.mem_filter.mp hL).2 (Cx.1.2.2.2.2.2.2.2.2.1 _ hL)) (fun _ h9 => h9) (kn_fs_get hdk) hd h
theorem kn_putI {D : va_G} {cs : Nat → ClassId} {z0 : Nat} {ad : Nat → Nat} {H1 : Heap} {x : Int32} (hz : z.2 i = .inl (ci, ds)) (hdk : ds[k]? = some none) (hv : kn_vz z)
    (hP : va_P D vwCl ((kn_wl cs ad σ τ z).set i (ad i, .inr (ci, (kn_fs ad σ τ i ds).set k (.int x)))) H1) (hD : va_D (kn_A z0) ((kn_wl cs ad σ τ z).set i (ad i, .inr (ci, (kn_fs ad σ τ i ds).set k (.int x))))) : kn_Wd D cs z0 ad (kn_up σ i k x) τ z H1 := by
  refine kn_Wd.put hv ?_ (fun j hj => kn_up_ne σ k x hj) (fun _ _ => rfl) hP hD
  rw [kn_ent_ob hz]
  congr 2
  have hkl : k < ds.length := (List.getElem?_eq_some_iff.mp hdk).1
  refine kn_fs_set rfl ?_ (fun j hj => kn_fs_at (by simp [kn_up, hj]) rfl ds)
  rw [kn_fs_get hdk, if_pos hkl]
  simp [kn_av, kn_up, kn_cv]
theorem k_putfield {x : Int32} {t9 : FieldType} (hd : decode M.2.1 pc = .ok (.putfield idx, 3)) (hc : kn_cf ci C T N ty) (hi : i < z.1) (hz : z.2 i = .inl (ci, ds)) (k : Nat) (hk : k < N) (hL : Cond.fieldLink M.1.cls idx (T k).1 (T k).2.1 (T k).2.2.1 ∈ kn_ws) (hdk : ds[k]? = some none) (hfin : (T k).2.2.2 = false) (ht : parseFieldDescriptor (T k).2.2.1 = some t9) (hn : narrow t9 (.int x) = .int x) (hf : fits t9 (.int x) = true)
    (kk : kn_Go X M (pc + 3) lv st (kn_up σ i k x) τ z c n Q) : kn_Go X M pc lv (.int x :: .ref i :: st) σ τ z c n Q := by
  intro D cs z0 ar p l e R s m args below meth cd n0 a0 mc ms QF Cx ad H locs ls cells slots hA
  refine va_put Cx.1.1.1 Cx.1.1.2.1 Cx.1.1.2.2.2.2 hc.2.1 ty hc.2.2.1 hc.2.2.2 Cx.1.1.2.2.2.1 Cx.1.2.2.2.1 hA.2.2.1.1 hA.2.2.1.2.1 hA.2.2.2.1 i (by rw [kn_wl_get hi, kn_ent_ob hz]) hc.1 k hk (Cx.1.1.2.2.2.2 _ hL) (fun _ h9 => h9) hfin ht hn hf (by rw [kn_fs_len]; exact (List.getElem?_eq_some_iff.mp hdk).1) hd (fun H1 locs1 hP hD hS => ?_)
  exact kk D cs z0 ar p l e R s m args below meth cd n0 a0 mc ms QF Cx ad H1 locs1 ls cells slots ⟨hA.1, hA.2.1, kn_putI hz hdk hA.2.2.1.2.2 hP hD, hS, hA.2.2.2.2⟩
theorem k_putfieldN {host : String} {x : Int32} {t9 : FieldType} (hd : decode M.2.1 pc = .ok (.putfield idx, 3)) (hc : kn_cf ci C T N ty) (hi : i < z.1) (hz : z.2 i = .inl (ci, ds)) (k : Nat) (hk : k < N) (hL : Cond.fieldLinkNest M.1.cls idx (T k).1 (T k).2.1 (T k).2.2.1 host ∈ kn_bad) (hdk : ds[k]? = some none) (hfin : (T k).2.2.2 = false) (ht : parseFieldDescriptor (T k).2.2.1 = some t9) (hn : narrow t9 (.int x) = .int x) (hf : fits t9 (.int x) = true)
    (kk : kn_Go X M (pc + 3) lv st (kn_up σ i k x) τ z c n Q) : kn_Go X M pc lv (.int x :: .ref i :: st) σ τ z c n Q := by
  intro D cs z0 ar p l e R s m args below meth cd n0 a0 mc ms QF Cx ad H locs ls cells slots hA
  refine va_putN Cx.1.1.1 Cx.1.1.2.1 Cx.1.1.2.2.2.2 hc.2.1 ty hc.2.2.1 hc.2.2.2 Cx.1.1.2.2.2.1 Cx.1.2.2.2.1 hA.2.2.1.1 hA.2.2.1.2.1 hA.2.2.2.1 i (by rw [kn_wl_get hi, kn_ent_ob hz]) hc.1 k hk (kn_bad_use (List.mem_filter.mp hL).2 (Cx.1.2.2.2.2.2.2.2.2.1 _ hL)) (fun _ h9 => h9) hfin ht hn hf (by rw [kn_fs_len]; exact (List.getElem?_eq_some_iff.mp hdk).1) hd (fun H1 locs1 hP hD hS => ?_)
  exact kk D cs z0 ar p l e R s m args below meth cd n0 a0 mc ms QF Cx ad H1 locs1 ls cells slots ⟨hA.1, hA.2.1, kn_putI hz hdk hA.2.2.1.2.2 hP hD, hS, hA.2.2.2.2⟩
theorem k_putfieldJ {x : Int64} (hd : decode M.2.1 pc = .ok (.putfield idx, 3)) (hc : kn_cf ci C T N ty) (hi : i < z.1) (hz : z.2 i = .inl (ci, ds)) (k : Nat) (hk : k < N) (hL : Cond.fieldLink M.1.cls idx (T k).1 (T k).2.1 (T k).2.2.1 ∈ kn_ws) (hdk : ds[k]? = some (some (.long 0))) (hfin : (T k).2.2.2 = false) (ht : parseFieldDescriptor (T k).2.2.1 = some .long)
    (kk : kn_Go X M (pc + 3) lv st σ (kn_upT τ i k x) z c n Q) : kn_Go X M pc lv (.long x :: .ref i :: st) σ τ z c n Q := by
  intro D cs z0 ar p l e R s m args below meth cd n0 a0 mc ms QF Cx ad H locs ls cells slots hA
  refine va_put Cx.1.1.1 Cx.1.1.2.1 Cx.1.1.2.2.2.2 hc.2.1 ty hc.2.2.1 hc.2.2.2 Cx.1.1.2.2.2.1 Cx.1.2.2.2.1 hA.2.2.1.1 hA.2.2.1.2.1 hA.2.2.2.1 i (by rw [kn_wl_get hi, kn_ent_ob hz]) hc.1 k hk (Cx.1.1.2.2.2.2 _ hL) (fun _ h9 => h9) hfin ht rfl rfl (by rw [kn_fs_len]; exact (List.getElem?_eq_some_iff.mp hdk).1) hd (fun H1 locs1 hP hD hS => ?_)
  refine kk D cs z0 ar p l e R s m args below meth cd n0 a0 mc ms QF Cx ad H1 locs1 ls cells slots ⟨hA.1, hA.2.1, kn_Wd.put hA.2.2.1.2.2 ?_ (fun _ _ => rfl) (fun j hj => kn_upT_ne τ k x hj) hP hD, hS, hA.2.2.2.2⟩
  rw [kn_ent_ob hz]
  congr 2
  have hkl : k < ds.length := (List.getElem?_eq_some_iff.mp hdk).1
  refine kn_fs_set rfl ?_ (fun j hj => kn_fs_at rfl (by simp [kn_upT, hj]) ds)
  rw [kn_fs_get hdk, if_pos hkl]
  simp [kn_av, kn_upT, kn_cv]
theorem k_iaload {x : Int32} {len : Nat} (hd : decode M.2.1 pc = .ok (.iaload, 1)) (hi : i < z.1) (hz : z.2 i = .inr (.inl (0, len))) (hin : vp_in x len)
    (kk : kn_Go X M (pc + 1) lv (.int (σ i x.toNatClampNeg) :: st) σ τ z c n Q) : kn_Go X M pc lv (.int x :: .ref i :: st) σ τ z c n Q := by
  intro D cs z0 ar p l e R s m args below meth cd n0 a0 mc ms QF Cx ad H locs ls cells slots hA
  exact va_iald Cx.1.1.1 Cx.1.1.2.1 Cx.1.2.2.2.1 hA.2.2.1.1 i 0 (by rw [kn_wl_get hi, kn_ent_ia hz]) rfl hin hd (kk D cs z0 ar p l e R s m args below meth cd n0 a0 mc ms QF Cx ad H locs ls cells slots hA)
theorem k_iastore {x v : Int32} {len : Nat} (hd : decode M.2.1 pc = .ok (.iastore, 1)) (hi : i < z.1) (hz : z.2 i = .inr (.inl (0, len))) (hin : vp_in x len)
    (kk : kn_Go X M (pc + 1) lv st (kn_up σ i x.toNatClampNeg v) τ z c n Q) : kn_Go X M pc lv (.int v :: .int x :: .ref i :: st) σ τ z c n Q := by
  intro D cs z0 ar p l e R s m args below meth cd n0 a0 mc ms QF Cx ad H locs ls cells slots hA
  refine va_iast Cx.1.1.1 Cx.1.1.2.1 Cx.1.2.2.2.1 hA.2.2.1.1 hA.2.2.1.2.1 hA.2.2.2.1 i 0 (by rw [kn_wl_get hi, kn_ent_ia hz]) rfl hin hd (fun H1 locs1 hP hD hS => ?_)
  refine kk D cs z0 ar p l e R s m args below meth cd n0 a0 mc ms QF Cx ad H1 locs1 ls cells slots ⟨hA.1, hA.2.1, kn_Wd.put hA.2.2.1.2.2 ?_ (fun j hj => kn_up_ne σ _ v hj) (fun _ _ => rfl) hP hD, hS, hA.2.2.2.2⟩
  rw [kn_ent_ia hz, kn_up_row]
theorem k_aaload {x : Int32} {l9 : List Value} (r : Nat) (hd : decode M.2.1 pc = .ok (.aaload, 1)) (hi : i < z.1) (hz : z.2 i = .inr (.inr l9)) (hin : vp_in x l9.length) (hr : l9.getD x.toNatClampNeg .null = .ref r)
    (kk : kn_Go X M (pc + 1) lv (.ref r :: st) σ τ z c n Q) : kn_Go X M pc lv (.int x :: .ref i :: st) σ τ z c n Q := by
  intro D cs z0 ar p l e R s m args below meth cd n0 a0 mc ms QF Cx ad H locs ls cells slots hA
  refine va_aldq Cx.1.1.1 Cx.1.1.2.1 Cx.1.2.2.2.1 hA.2.2.1.1 i 1 (by rw [kn_wl_get hi, kn_ent_ra hz]) rfl hin hd ?_
  rw [hr]
  exact kk D cs z0 ar p l e R s m args below meth cd n0 a0 mc ms QF Cx ad H locs ls cells slots hA
theorem k_alenI {len : Nat} (hd : decode M.2.1 pc = .ok (.arraylength, 1)) (hi : i < z.1) (hz : z.2 i = .inr (.inl (0, len)))
    (kk : kn_Go X M (pc + 1) lv (.int (nI len) :: st) σ τ z c n Q) : kn_Go X M pc lv (.ref i :: st) σ τ z c n Q := by
  intro D cs z0 ar p l e R s m args below meth cd n0 a0 mc ms QF Cx ad H locs ls cells slots hA
  exact va_alen Cx.1.1.1 Cx.1.1.2.1 Cx.1.2.2.2.1 hA.2.2.1.1 i 0 (x := (len, .inl (σ i))) (v := nI len) (by rw [kn_wl_get hi, kn_ent_ia hz]) rfl rfl hd (kk D cs z0 ar p l e R s m args below meth cd n0 a0 mc ms QF Cx ad H locs ls cells slots hA)
theorem k_alenR {l9 : List Value} (hd : decode M.2.1 pc = .ok (.arraylength, 1)) (hi : i < z.1) (hz : z.2 i = .inr (.inr l9))
    (kk : kn_Go X M (pc + 1) lv (.int (nI l9.length) :: st) σ τ z c n Q) : kn_Go X M pc lv (.ref i :: st) σ τ z c n Q := by
  intro D cs z0 ar p l e R s m args below meth cd n0 a0 mc ms QF Cx ad H locs ls cells slots hA
  exact va_alen Cx.1.1.1 Cx.1.1.2.1 Cx.1.2.2.2.1 hA.2.2.1.1 i 1 (x := (l9.length, .inr (.inr (.inr (.inr (fun j => kn_rf ad (l9.getD j .null))))))) (v := nI l9.length) (by rw [kn_wl_get hi, kn_ent_ra hz]) rfl rfl hd (kk D cs z0 ar p l e R s m args below meth cd n0 a0 mc ms QF Cx ad H locs ls cells slots hA)
theorem k_roload {x : Int32} {r : Nat} (hd : decode M.2.1 pc = .ok (.iaload, 1)) (hr : r < 4) (hin : vp_in x (kn_rl X r))
    (kk : kn_Go X M (pc + 1) lv (.int (kn_rv X r x.toNatClampNeg) :: st) σ τ z c n Q) : kn_Go X M pc lv (.int x :: .retAddr r :: st) σ τ z c n Q := by
  intro D cs z0 ar p l e R s m args below meth cd n0 a0 mc ms QF Cx ad H locs ls cells slots hA
  exact va_ti Cx.1.1.1 Cx.1.1.2.1 (Cx.1.2.2.2.2.1 r hr) hA.2.2.2.1 hin rfl hd (kk D cs z0 ar p l e R s m args below meth cd n0 a0 mc ms QF Cx ad H locs ls cells slots hA)
theorem k_rolen {r : Nat} (hd : decode M.2.1 pc = .ok (.arraylength, 1)) (hr : r < 4)
    (kk : kn_Go X M (pc + 1) lv (.int (nI (kn_rl X r)) :: st) σ τ z c n Q) : kn_Go X M pc lv (.retAddr r :: st) σ τ z c n Q := by
  intro D cs z0 ar p l e R s m args below meth cd n0 a0 mc ms QF Cx ad H locs ls cells slots hA
  exact va_tlen Cx.1.1.1 Cx.1.1.2.1 (Cx.1.2.2.2.2.1 r hr) hA.2.2.2.1 rfl hd (kk D cs z0 ar p l e R s m args below meth cd n0 a0 mc ms QF Cx ad H locs ls cells slots hA)
theorem k_getstatic {r : Nat} (hd : decode M.2.1 pc = .ok (.getstatic idx, 3)) (hr : (r = 1 ∧ Cond.fieldLink M.1.cls idx "KnockControl" "LEAST_SETTING" "[I" ∈ kn_ws) ∨ (r = 2 ∧ Cond.fieldLink M.1.cls idx "KnockControl" "FIRST_SETTING" "[I" ∈ kn_ws) ∨ (r = 3 ∧ Cond.fieldLink M.1.cls idx "KnockControl" "MOST_SETTING" "[I" ∈ kn_ws))
    (kk : kn_Go X M (pc + 3) lv (.retAddr r :: st) σ τ z c n Q) : kn_Go X M pc lv st σ τ z c n Q := by
  intro D cs z0 ar p l e R s m args below meth cd n0 a0 mc ms QF Cx ad H locs ls cells slots hA
  have h := kk D cs z0 ar p l e R s m args below meth cd n0 a0 mc ms QF Cx ad H locs ls cells slots hA
  obtain ⟨h1, h2, h3⟩ := Cx.1.2.2.2.2.2.1
  rcases hr with ⟨rfl, hL⟩ | ⟨rfl, hL⟩ | ⟨rfl, hL⟩
  · exact va_gets Cx.1.1.1 Cx.1.1.2.1 h1 hA.2.2.2.1 Cx.1.1.2.2.2.1 (Cx.1.1.2.2.2.2 _ hL) (fun _ h9 => h9) hd h
  · exact va_gets Cx.1.1.1 Cx.1.1.2.1 h2 hA.2.2.2.1 Cx.1.1.2.2.2.1 (Cx.1.1.2.2.2.2 _ hL) (fun _ h9 => h9) hd h
  · exact va_gets Cx.1.1.1 Cx.1.1.2.1 h3 hA.2.2.2.1 Cx.1.1.2.2.2.1 (Cx.1.1.2.2.2.2 _ hL) (fun _ h9 => h9) hd h
end KNH

