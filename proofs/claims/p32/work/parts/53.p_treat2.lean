-- the cylinders kept together, the learning, a firing whole
section KRT
variable {s t : kn_S} {b m fi fk c : Nat} {e : Int32}
theorem kr_gf (hA : kr_A s b (t 129)) (hI : kr_I (t 129) m fi fk) : ∀ j, j < 8 → kf_fold (fun k => s (b + 4) (k + 1)) kf_max (s (b + 4) 0) j = kg_gr t (j + 1)
  | 0, _ => by
    show s (b + 4) 0 = if t 129 (17 + 0) ≤ 0 then 0 else t 129 (17 + 0)
    rw [hA.fast (c := 0) (by decide)]
    obtain ⟨q, hq, h0⟩ := hI.2.2.2.2.1 0 (by decide)
    rw [h0]
    cases q with
    | zero => rfl
    | succ q => rw [if_neg (nI_nle (by omega) (by omega))]
  | j + 1, hj => by
    show kf_max (kf_fold (fun k => s (b + 4) (k + 1)) kf_max (s (b + 4) 0) j) (s (b + 4) (j + 1)) = if t 129 (17 + (j + 1)) ≤ kg_gr t (j + 1) then kg_gr t (j + 1) else t 129 (17 + (j + 1))
    rw [kr_gf hA hI j (by omega), hA.fast hj, kr_maxE]
theorem kr_grI (hI : kr_I (t 129) m fi fk) : ∀ j, j ≤ 8 → kr_le (kg_gr t j) 1000
  | 0, _ => ⟨0, by omega, rfl⟩
  | j + 1, hj => by
    unfold kg_gr
    split
    · exact kr_grI hI j (by omega)
    · exact hI.2.2.2.2.1 j (by omega)
theorem kr_ev {l : Int32} (hl : l.toInt ≤ 1000) (h : kr_X s b (t 129) m fi fk) : ∀ j, j ≤ 8 → kr_X (kf_mapA s (b + 4) j (fun x => kf_max x l)) b (kg_ev t l j 129) m fi fk
  | 0, _ => by rw [kf_mapA_0]; exact h
  | j + 1, hj => by
    have h1 := kr_ev hl h j (by omega)
    rw [← kf_mapA_succ]
    show kr_X _ b (kn_up (kg_ev t l j) 129 (17 + j) (if l ≤ kg_ev t l j 129 (17 + j) then kg_ev t l j 129 (17 + j) else l) 129) m fi fk
    rw [kr_maxE, ← kf_mapA_at s (b + 4) j (fun x => kf_max x l), h1.1.fast (by omega)]
    refine h1.fast (by omega) ?_
    have i1 := (h1.2.2.2.2.2.2.1 j (by omega)).i (by decide)
    refine kr_le_of (by decide) ?_ ?_ <;> rw [kf_max_i] <;> omega
theorem kr_keep (h : kr_X s b (t 129) m fi fk) : kr_X (kf_keep s b m) b (kg_evens t m 129) m fi fk := by
  have hm2 : 2 ≤ m ∧ m ≤ 8 := h.2.2.1.2
  have e4 : kf_at (s (b + 2)) 8 4 = t 129 4 := (kf_at_nI (k := 4) (by decide) (by decide)).trans (h.1.set (by decide))
  have eg : kf_gf s b m = kg_gr t m := by
    unfold kf_gf
    rw [kr_gf h.1 h.2.2 (m - 1) (by omega)]
    exact congrArg (kg_gr t) (by omega)
  unfold kf_keep kg_evens
  rw [e4, eg]
  have hg := kr_grI h.2.2 m (by omega)
  have hs := h.2.2.2.2.2.1.2.2 4 (by decide)
  have i1 := hg.i (by decide)
  have i2 := hs.i (by decide)
  have i3 := kr_subI hg hs (by decide) (by decide)
  exact kr_ev (by omega) h m (by omega)
theorem kr_sumE (hA : kr_A s b (t 129)) : ∀ j, j ≤ 8 → kf_fold (s (b + 4)) kf_add 0 j = kg_sum t 17 j
  | 0, _ => rfl
  | j + 1, hj => by
    show kf_fold (s (b + 4)) kf_add 0 j + s (b + 4) j = kg_sum t 17 j + t 129 (17 + j)
    rw [kr_sumE hA j (by omega), hA.fast (by omega)]
theorem kr_dec (h : kr_X s b (t 129) m fi fk) : ∀ j, j ≤ 8 → kr_X (kf_mapA s (b + 4) j kf_dec) b (kg_dec t j 129) m fi fk
  | 0, _ => by rw [kf_mapA_0]; exact h
  | j + 1, hj => by
    have h1 := kr_dec h j (by omega)
    rw [← kf_mapA_succ]
    show kr_X _ b (kn_up (kg_dec t j) 129 (17 + j) (kg_dec t j 129 (17 + j) - if kg_dec t j 129 (17 + j) ≤ 0 then 0 else 1) 129) m fi fk
    rw [kr_decE, ← kf_mapA_at s (b + 4) j kf_dec, h1.1.fast (by omega)]
    exact h1.fast (by omega) (kr_decI (by decide) (h1.2.2.2.2.2.2.1 j (by omega)))
theorem kr_leL {cl : Nat} {mean : Int32} (h : kr_X s b (t 129) m fi fk) (hcl : cl < 24) : kr_X (kf_learnL s b (nI cl) mean) b (kg_leL t cl mean 129) m fi fk := by
  unfold kf_learnL kg_leL
  rw [kf_at_nI (by decide) hcl, h.1.lea hcl]
  split
  · exact h
  split
  · exact h
  · rename_i q1 q
    dsimp only [kf_learnDn]
    rw [kf_at_nI (by decide) hcl, kf_put_nI _ _ (by decide) hcl, h.1.lea hcl]
    refine kr_note 4 (nI cl) (h.lea hcl ?_)
    obtain ⟨j, hj, e1⟩ := h.2.2.2.2.2.2.2.2.1 cl hcl
    rw [e1] at q ⊢
    cases j with
    | zero => exact absurd (nI_le (Nat.le_refl 0) (by omega)) q
    | succ j => exact ⟨j, by omega, nI_pred j⟩
theorem kr_le9 {cl : Nat} (h : kr_X s b (t 129) m fi fk) (hcl : cl < 24) : kr_X (kf_learnM s b m (nI cl) (kf_fold (s (b + 4)) kf_add 0 m / s b 7)) b (kg_le t m cl 129) m fi fk := by
  have hm2 : 2 ≤ m ∧ m ≤ 8 := h.2.2.1.2
  unfold kf_learnM kg_le
  rw [kr_sumE h.1 m (by omega), h.1.cyl, h.2.2.1.1, kf_at_nI (by decide) hcl, h.1.lea hcl]
  split
  · exact kr_leL h hcl
  split
  · exact kr_leL h hcl
  · rename_i q1 q
    dsimp only [kf_learnUp, kg_leU]
    rw [kf_at_nI (by decide) hcl, kf_put_nI _ _ (by decide) hcl, h.1.lea hcl]
    refine kr_note 3 (nI cl) (kr_dec (h.lea hcl ?_) m (by omega))
    obtain ⟨j, hj, e1⟩ := h.2.2.2.2.2.2.2.2.1 cl hcl
    rw [e1] at q ⊢
    have : ¬ 100 ≤ j := fun w => q (nI_le w (by omega))
    exact ⟨j + 1, by omega, nI_1 j⟩
theorem kr_learn {cl : Nat} (h : kr_X s b (t 129) m fi fk) (hcl : cl < 24) : kr_X (kf_learn s b m (nI cl)) b (kg_t5 t m cl 129) m fi fk := by
  have hm2 : 2 ≤ m ∧ m ≤ 8 := h.2.2.1.2
  have e5 : kf_at (s (b + 2)) 8 5 = t 129 5 := (kf_at_nI (k := 5) (by decide) (by decide)).trans (h.1.set (by decide))
  have e7 : s b 7 = nI m := h.1.cyl.trans h.2.2.1.1
  have h9 := kr_le9 h hcl
  unfold kf_learn kg_t5
  rw [if_neg (show ¬ s b 7 ≤ 0 by rw [e7]; exact nI_nle (by omega) (by omega)), e5, h.1.ste, e7]
  rw [e7] at h9
  split
  · exact h
  split
  · exact h9
  · exact h
theorem kr_trF (h : kr_X s b (t 129) m fi fk) (hn : s b 14 = nI (fi % m)) (hfi : fi + 1 < 2 ^ 31) : kr_X (kf_trF s b) b (kg_t6 t 129) m (fi + 1) fk ∧ kf_trF s b b 14 = nI ((fi + 1) % m) := by
  have hm2 : 2 ≤ m ∧ m ≤ 8 := h.2.2.1.2
  have e7 : s b 7 = nI m := h.1.cyl.trans h.2.2.1.1
  have h1 := h.fir
  have hmod : fi % m < m := Nat.mod_lt _ (by omega)
  have e14 : kn_up s b 13 (s b 13 + 1) b 14 = nI (fi % m) := by rw [kn_upk (by decide), hn]
  have e77 : kn_up s b 13 (s b 13 + 1) b 7 = nI m := by rw [kn_upk (by decide), e7]
  unfold kf_trF kg_t6
  dsimp only
  refine ⟨⟨h1.1.to (fun a q1 q2 j q3 => ?_), h1.2.1.to (fun a q1 q2 => kn_up_ne _ _ _ (by omega)) (fun _ _ => rfl), h1.2.2⟩, ?_⟩
  · by_cases q : a = b
    · subst q; exact kn_upk (q3 rfl)
    · exact congrFun (kn_up_ne _ _ _ q) j
  · rw [e14, e77, nI_1, kn_up_row]
    show (if nI m ≤ nI (fi % m + 1) then 0 else nI (fi % m + 1)) = _
    have hd := Nat.div_add_mod fi m
    by_cases q : fi % m + 1 = m
    · rw [if_pos (nI_le (by omega) (by omega))]
      have : (fi + 1) % m = 0 := by
        rw [Nat.add_mod, Nat.mod_eq_of_lt (show 1 < m by omega), q, Nat.mod_self]
      rw [this]; rfl
    · rw [if_neg (nI_ge (by omega) (by omega))]
      have : (fi + 1) % m = fi % m + 1 := by
        rw [Nat.add_mod, Nat.mod_eq_of_lt (show 1 < m by omega), Nat.mod_eq_of_lt (by omega)]
      rw [this]
/-- the control and the row: the same, and the next cylinder's number is right -/
def kr_R (s : kn_S) (b : Nat) (g : Nat → Int32) (m fi : Nat) : Prop := kr_X s b g m fi fi ∧ s b 14 = nI (fi % m)
set_option maxHeartbeats 1000000 in
theorem kr_treat {x y : Int32} {cl : Nat} (h : kr_R s b (t 129) m fi) (he : kr_le e 20000) (hce : kf_cell x y = nI cl) (hcl : cl < 24) (hfi : fi + 1 < 2 ^ 31) :
    kr_R (kf_treat s b m x y e) b (kg_tr t m cl e 129) m (fi + 1) ∧ kf_to s b x y e = kg_ta t m cl e ∧ kg_tp t m cl e := by
  obtain ⟨hX, hn⟩ := h
  have hm2 : 2 ≤ m ∧ m ≤ 8 := hX.2.2.1.2
  have hc : fi % m < 8 := Nat.lt_of_lt_of_le (Nat.mod_lt _ (by omega)) hm2.2
  have hcc : kg_cc t m = fi % m := by unfold kg_cc; rw [hX.2.2.2.1, nI_clamp (by omega)]
  have h1 := kr_trA (e := e) (cl := cl) hX
  have hn1 : kf_trA s b (nI cl) e b 14 = nI (fi % m) := (kf_trA_b s b _ e (by decide) (by decide) (by decide) (by decide) (by decide)).trans hn
  unfold kf_treat kg_tr kf_to kg_ta
  rw [hce, hcc]
  refine ⟨?_, ?_, ⟨hX.2.2.1.1, by omega, hm2.2⟩, ?_, ⟨fi, by omega, hX.2.2.2.1⟩, ?_⟩
  · generalize kf_trA s b (nI cl) e = s1 at h1 hn1 ⊢
    generalize kg_t3 t cl e = t1 at h1 ⊢
    unfold kf_trB kg_tr2
    rw [hn1, h1.1.fau]
    split
    · have h2 : kr_X (kf_listen s1 b (nI (fi % m)) (nI cl) e) b (kg_t4 t1 (fi % m) cl e 129) m fi (fi + 1) := by
        unfold kf_listen kg_t4
        rw [kr_thr h1.1 hc]
        split
        · exact (kr_listenQ h1 hc he).more (by omega)
        · exact kr_listenK h1 hc hcl
      have h3 := kr_learn (kr_keep h2) hcl
      refine ⟨(kr_trF h3 ?_ hfi).1, (kr_trF h3 ?_ hfi).2⟩ <;> rw [kf_learn_b, kf_keep_b, kf_listen_b, hn1]
    · have h3 := kr_trF h1 hn1 hfi
      exact ⟨h3.1.more (by omega), h3.2⟩
  · unfold kf_trO kg_ti kf_lo
    rw [hn1, h1.1.fau, kr_thr h1.1 hc]
  · obtain ⟨o, lc, q1, ⟨q2, q3, q4⟩, q5⟩ := hX.2.1
    exact ⟨lc, q4, q3⟩
  · obtain ⟨j, hj, hj2⟩ := kr_thrE h1.2.2 hc
    rw [hcc, hj]
    exact nI_ne0 (by omega) (by omega)
end KRT

