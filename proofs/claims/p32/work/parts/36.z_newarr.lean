-- new arrays
theorem kn_grow {M : kn_M} {lv : kn_L} {σ : kn_S} {τ : kn_T} {z : kn_Z} {c n N : Nat} {D : va_G} {cs : Nat → ClassId} {z0 : Nat} {ar : Nat → Nat} {s : State} {n0 : Nat} {a0 : Nat → Nat} {mc ms : Nat} {ad : Nat → Nat} {H : Heap} {locs : List Loc} {ls : Array Slot} {cells slots : Nat} (hA : kn_At M lv σ τ z (c + 1) (n + N) D cs z0 ar s n0 a0 mc ms ad H locs ls cells slots)
    {q : Nat} {H1 : Heap} {f : (Nat × List (Option Value)) ⊕ ((Nat × Nat) ⊕ List Value)} {e : va_E} (he : kn_ent cs (kn_aN ad z.1 q) (kn_zS σ z.1) (kn_zT τ z.1) (kn_zZ z f) z.1 = e)
    (hnr : match f with | .inl (_, ds) => ∀ r, some (Value.ref r) ∉ ds | .inr (.inl _) => True | .inr (.inr l) => ∀ r, Value.ref r ∉ l) (v2 : kn_vok z.1 (lv.map (fun q => q.2)))
    (hP : va_P D vwCl (kn_wl cs ad σ τ z ++ [(q, e)]) H1) (hD : va_D (kn_A z0) (kn_wl cs ad σ τ z ++ [(q, e)])) (hS : va_S (kn_A z0) s.heap H1 locs) :
    kn_At M lv (kn_zS σ z.1) (kn_zT τ z.1) (kn_zZ z f) c n D cs z0 ar s n0 a0 mc ms (kn_aN ad z.1 q) H1 locs ls (cells + 1) (slots + N) := by
  have hne : ∀ i, i < z.1 → ¬ i = z.1 := fun i hi => Nat.ne_of_lt hi
  have hq : kn_aN ad z.1 q z.1 = q := if_pos rfl
  have ha : ∀ i, i < z.1 → kn_aN ad z.1 q i = ad i := fun i hi => if_neg (hne i hi)
  have e := kn_wl_app (cs := cs) (z := z) (z' := kn_zZ z f) (ad := ad) (s := σ) (t := τ) rfl ha hq he (fun i hi => kn_ent_ad hA.2.2.1.2.2 hi ha (if_neg (hne i hi)) (by funext b; exact if_neg (hne i hi)) (by funext b; exact if_neg (hne i hi)))
  have hvz : kn_vz (kn_zZ z f) := by
    intro i hi
    by_cases h : i = z.1
    · have e1 : (kn_zZ z f).2 i = f := if_pos h
      rw [e1]
      cases f with
      | inl x => exact fun r hr => absurd hr (hnr r)
      | inr x =>
        cases x with
        | inl x => trivial
        | inr x => exact fun r hr => absurd hr (hnr r)
    · have e1 : (kn_zZ z f).2 i = z.2 i := if_neg h
      rw [e1]
      have hi' : i < z.1 + 1 := hi
      have h2 := hA.2.2.1.2.2 i (by omega)
      cases hf : z.2 i with
      | inl x => rw [hf] at h2; exact fun r hr => Nat.lt_succ_of_lt (h2 r hr)
      | inr x =>
        cases x with
        | inl x => trivial
        | inr x => rw [hf] at h2; exact fun r hr => Nat.lt_succ_of_lt (h2 r hr)
  refine ⟨kn_Ad_aN hA.1, ⟨by have := hA.2.1.1; omega, by have := hA.2.1.2; omega⟩, ⟨by rw [e]; exact hP, by rw [e]; exact hD, hvz⟩, hS, ?_⟩
  rw [kn_lc_aN v2]
  exact hA.2.2.2.2
theorem kn_stN {z : kn_Z} {st : List Value} {ad ar : Nat → Nat} {q : Nat} (v1 : kn_vok z.1 st) : (Value.ref z.1 :: st).map (kn_cv (kn_aN ad z.1 q) ar) = Value.ref q :: st.map (kn_cv ad ar) := by
  have ha : ∀ i, i < z.1 → kn_aN ad z.1 q i = ad i := fun i hi => if_neg (Nat.ne_of_lt hi)
  have hq : kn_aN ad z.1 q z.1 = q := if_pos rfl
  rw [List.map_cons, kn_vok_map v1 ha]
  show Value.ref (kn_aN ad z.1 q z.1) :: _ = _
  rw [hq]
theorem wA_int : Cond.arrayClass .int ∈ kn_ws := kn_in 54 (by decide +kernel) (by decide +kernel)
theorem k_newarrI {X : kn_X} {M : kn_M} {pc : Nat} {lv : kn_L} {σ : kn_S} {τ : kn_T} {z : kn_Z} {c n : Nat} {Q : kn_Q} {st : List Value} {x : Int32} {L : Nat} (hd : decode M.2.1 pc = .ok (.newarray .int, 2)) (hx : ¬ x < 0) (hL : x.toNatClampNeg = L) (hb : L * 4 ≤ 536870912) (v1 : kn_vok z.1 st) (v2 : kn_vok z.1 (lv.map (fun q => q.2)))
    (k : kn_Go X M (pc + 2) lv (.ref z.1 :: st) (kn_zS σ z.1) (kn_zT τ z.1) (kn_zZ z (.inr (.inl (0, L)))) c n Q) : kn_Go X M pc lv (.int x :: st) σ τ z (c + 1) (n + L) Q := by
  intro D cs z0 ar p l e R s m args below meth cd n0 a0 mc ms QF Cx ad H locs ls cells slots hA
  have hts := Cx.1.1.2.2.2.2
  refine va_newa (atype := .int) (ty := .int) (a0 := (L, .inl (fun _ => 0))) Cx.1.1.1 Cx.1.1.2.1 (hts _ wA_int) rfl Cx.1.2.2.2.1 hA.2.2.1.1 hA.2.2.1.2.1 hA.2.2.2.1 (fun q hq => Nat.le_trans Cx.1.2.2.2.2.2.2.2.2.2.2 hq) (fun cA => rfl) hx hL hb (by have := hA.2.1.1; have := Cx.2.2.1; omega) (by have := hA.2.1.2; have := Cx.2.2.2; omega) hd (fun q cA H1 hK hP hD hS => ?_)
  have hcA : cA = cs 0 := Option.some.inj ((hK.2 2 (cA, .int) rfl).2.symm.trans (hK.2 0 (cs 0, .int) rfl).2)
  subst hcA
  have he : kn_ent cs (kn_aN ad z.1 q) (kn_zS σ z.1) (kn_zT τ z.1) (kn_zZ z (.inr (.inl (0, L)))) z.1 = .inl (cs 0, L, .inl (fun _ => 0)) := by
    have e1 : (kn_zZ z (.inr (.inl (0, L)))).2 z.1 = .inr (.inl (0, L)) := if_pos rfl
    unfold kn_ent
    rw [e1]
    show (Sum.inl (cs 0, L, .inl (kn_zS σ z.1 z.1)) : va_E) = _
    have ef : kn_zS σ z.1 z.1 = fun _ => 0 := by
      funext b; exact if_pos rfl
    rw [ef]
  have h := k D cs z0 ar p l e R s m args below meth cd n0 a0 mc ms QF Cx (kn_aN ad z.1 q) H1 locs ls (cells + 1) (slots + L) (kn_grow hA he trivial v2 hP hD hS)
  rw [kn_stN v1] at h
  exact h

