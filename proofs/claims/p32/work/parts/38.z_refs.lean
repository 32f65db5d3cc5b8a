-- arrays of references
theorem wA_state : Cond.arrayOver (.object "KnockControl$State") ∈ kn_bad := kn_inb 165 (by decide +kernel) (by decide +kernel)
theorem k_anewarr {X : kn_X} {M : kn_M} {pc : Nat} {lv : kn_L} {σ : kn_S} {τ : kn_T} {z : kn_Z} {c n : Nat} {Q : kn_Q} {st : List Value} {x : Int32} {L idx : Nat} (hd : decode M.2.1 pc = .ok (.anewarray idx, 3)) (hC : Cond.classLink M.1.cls idx "KnockControl$State" ∈ kn_ws) (hx : ¬ x < 0) (hL : x.toNatClampNeg = L) (hb : L * 4 ≤ 536870912) (v1 : kn_vok z.1 st) (v2 : kn_vok z.1 (lv.map (fun q => q.2)))
    (k : kn_Go X M (pc + 3) lv (.ref z.1 :: st) (kn_zS σ z.1) (kn_zT τ z.1) (kn_zZ z (.inr (.inr (List.replicate L .null)))) c n Q) : kn_Go X M pc lv (.int x :: st) σ τ z (c + 1) (n + L) Q := by
  intro D cs z0 ar p l e R s m args below meth cd n0 a0 mc ms QF Cx ad H locs ls cells slots hA
  have hts := Cx.1.1.2.2.2.2
  refine va_newq Cx.1.1.1 Cx.1.1.2.1 Cx.1.1.2.2.2.1 (hts _ hC) (va_AO.of (A := args) (kn_bad_use (List.mem_filter.mp wA_state).2 (Cx.1.2.2.2.2.2.2.2.2.1 _ wA_state))) Cx.1.2.2.2.1 hA.2.2.1.1 hA.2.2.1.2.1 hA.2.2.2.1 (fun q hq => Nat.le_trans Cx.1.2.2.2.2.2.2.2.2.2.2 hq) hx hL hb (by have := hA.2.1.1; have := Cx.2.2.1; omega) (by have := hA.2.1.2; have := Cx.2.2.2; omega) hd (fun q cA H1 hK hP hD hS => ?_)
  have hcA : cA = cs 1 := by
    obtain ⟨_, _, _, _, _, h1⟩ := (hK.2 2 (cA, .object "KnockControl$State") rfl).2
    obtain ⟨_, _, _, _, _, h2⟩ := (hK.2 1 (cs 1, .object "KnockControl$State") rfl).2
    exact Option.some.inj (h1.symm.trans h2)
  subst hcA
  have he : kn_ent cs (kn_aN ad z.1 q) (kn_zS σ z.1) (kn_zT τ z.1) (kn_zZ z (.inr (.inr (List.replicate L .null)))) z.1 = .inl (cs 1, L, .inr (.inr (.inr (.inr (fun _ => none))))) := by
    have e1 : (kn_zZ z (.inr (.inr (List.replicate L .null)))).2 z.1 = .inr (.inr (List.replicate L .null)) := if_pos rfl
    rw [kn_ent_ra e1, List.length_replicate]
    have ef : (fun j => kn_rf (kn_aN ad z.1 q) ((List.replicate L Value.null).getD j .null)) = fun _ => none := by
      funext j
      have : (List.replicate L Value.null).getD j .null = .null := by
        rw [List.getD_eq_getElem?_getD, List.getElem?_replicate]
        split <;> rfl
      rw [this]
      rfl
    rw [ef]
  have hnn : ∀ r, Value.ref r ∉ List.replicate L Value.null := fun r hr => by
    have := List.eq_of_mem_replicate hr
    cases this
  have h := k D cs z0 ar p l e R s m args below meth cd n0 a0 mc ms QF Cx (kn_aN ad z.1 q) H1 locs ls (cells + 1) (slots + L) (kn_grow hA he hnn v2 hP hD hS)
  rw [kn_stN v1] at h
  exact h
abbrev kn_zA (z : kn_Z) (i : Nat) (l : List Value) : kn_Z := (z.1, fun j => if j = i then .inr (.inr l) else z.2 j)
theorem k_aastore {X : kn_X} {M : kn_M} {pc : Nat} {lv : kn_L} {σ : kn_S} {τ : kn_T} {z : kn_Z} {c n : Nat} {Q : kn_Q} {st : List Value} {x : Int32} {i r : Nat} {l9 : List Value} {ds : List (Option Value)} (hd : decode M.2.1 pc = .ok (.aastore, 1)) (hi : i < z.1) (hz : z.2 i = .inr (.inr l9)) (hr : r < z.1) (hzr : z.2 r = .inl (4, ds)) (hin : vp_in x l9.length)
    (kk : kn_Go X M (pc + 1) lv st σ τ (kn_zA z i (l9.set x.toNatClampNeg (.ref r))) c n Q) : kn_Go X M pc lv (.ref r :: .int x :: .ref i :: st) σ τ z c n Q := by
  intro D cs z0 ar p l e_ R s m args below meth cd n0 a0 mc ms QF Cx ad H locs ls cells slots hA
  have hlt : x.toNatClampNeg < l9.length := Nat.not_le.mp fun q => hin (Or.inr q)
  refine va_astq (r := (RX5, TX5, 17)) Cx.1.1.1 Cx.1.1.2.1 Cx.1.2.2.2.1 hA.2.2.1.1 hA.2.2.1.2.1 hA.2.2.2.1 i 1 r 4 (by rw [kn_wl_get hi, kn_ent_ra hz]) rfl (by rw [kn_wl_get hr, kn_ent_ob hzr]) hc_X5.1 hin hd (fun H1 locs1 hP hD hS => ?_)
  have he : kn_ent cs ad σ τ (kn_zA z i (l9.set x.toNatClampNeg (.ref r))) i = .inl (cs 1, l9.length, .inr (.inr (.inr (.inr (va_up (fun j => kn_rf ad (l9.getD j .null)) x.toNatClampNeg (some (ad r))))))) := by
    have e1 : (kn_zA z i (l9.set x.toNatClampNeg (.ref r))).2 i = .inr (.inr (l9.set x.toNatClampNeg (.ref r))) := if_pos rfl
    rw [kn_ent_ra e1, List.length_set]
    have ef : (fun j => kn_rf ad ((l9.set x.toNatClampNeg (.ref r)).getD j .null)) = va_up (fun j => kn_rf ad (l9.getD j .null)) x.toNatClampNeg (some (ad r)) := by
      funext j
      unfold va_up
      rw [List.getD_eq_getElem?_getD, List.getElem?_set]
      by_cases h : x.toNatClampNeg = j
      · rw [if_pos h, if_pos hlt, if_pos h.symm]
        rfl
      · rw [if_neg h, if_neg (fun q => h q.symm)]
        show _ = kn_rf ad (l9.getD j .null)
        rw [List.getD_eq_getElem?_getD]
    rw [ef]
  have e := kn_wl_set (cs := cs) (ad := ad) (s := σ) (t := τ) (s' := σ) (t' := τ) (z := z) (z' := kn_zA z i (l9.set x.toNatClampNeg (.ref r))) rfl he (fun j _ hj => by
    have e1 : (kn_zA z i (l9.set x.toNatClampNeg (.ref r))).2 j = z.2 j := if_neg hj
    unfold kn_ent
    rw [e1])
  have hvz : kn_vz (kn_zA z i (l9.set x.toNatClampNeg (.ref r))) := by
    intro j hj
    by_cases h : j = i
    · subst h
      have e1 : (kn_zA z j (l9.set x.toNatClampNeg (.ref r))).2 j = .inr (.inr (l9.set x.toNatClampNeg (.ref r))) := if_pos rfl
      rw [e1]
      intro r' hr'
      have h2 := hA.2.2.1.2.2 j hi
      rw [hz] at h2
      rcases List.mem_or_eq_of_mem_set hr' with q | q
      · exact h2 r' q
      · cases q; exact hr
    · have e1 : (kn_zA z i (l9.set x.toNatClampNeg (.ref r))).2 j = z.2 j := if_neg h
      rw [e1]
      exact hA.2.2.1.2.2 j hj
  exact kk D cs z0 ar p l e_ R s m args below meth cd n0 a0 mc ms QF Cx ad H1 locs1 ls cells slots ⟨⟨hA.1.1, hA.1.2.1, hA.1.2.2⟩, hA.2.1, ⟨by rw [← e]; exact hP, by rw [← e]; exact hD, hvz⟩, hS, hA.2.2.2.2⟩

