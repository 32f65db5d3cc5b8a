-- what is told
theorem kr_inN {k N : Nat} (h : k ≤ N) (hN : N < 2 ^ 31) : ¬ kf_within (nI k) 0 (nI N) = 0 := by
  unfold kf_within
  rw [if_neg (nI_pos (by omega)), if_neg (nI_nlt h (by omega))]
  decide
theorem kg_isN_in {k m : Nat} (h : k < m) (hm : m < 2 ^ 31) : ¬ kg_isN m (nI k) = 0 := by
  unfold kg_isN
  obtain ⟨m', rfl⟩ : ∃ m', m = m' + 1 := ⟨m - 1, by omega⟩
  rw [nI_pred]
  exact kr_inN (by omega) (by omega)
section KRCS
variable {X : kn_X} {z : kn_Z} {σ : kn_S} {τ : kn_T} {B m fi o k len : Nat}
theorem kr_u129 (v : Int32) : kn_up σ 128 4 v 129 = σ 129 := kn_up_ne _ _ _ (by decide)
theorem kr_hm (hW : kr_W σ σ B m fi o k len) : σ 129 8 = nI m ∧ 1 ≤ m ∧ m ≤ 8 := ⟨hW.1.1.2.2.1.1, by have := hW.1.1.2.2.1.2.1; omega, hW.1.1.2.2.1.2.2⟩
theorem kr_log (hW : kr_W σ σ B m fi o k len) : ∃ lc, σ 14 4 = nI lc ∧ σ 129 73 = nI lc ∧ lc ≤ 60 ∧ ∀ j, j < lc → kf_about σ 14 (nI j) 0 = σ 129 (74 + 3 * j) ∧ kf_about σ 14 (nI j) 1 = σ 129 (74 + 3 * j + 1) ∧ kf_about σ 14 (nI j) 2 = σ 129 (74 + 3 * j + 2) := by
  obtain ⟨o9, lc, ⟨h3, ho⟩, ⟨h4, h73, hlc⟩, hi⟩ := hW.1.1.2.1
  refine ⟨lc, h4, h73, hlc, fun j hj => ?_⟩
  have hp : kf_place σ 14 (nI j) = nI ((o9 + j) % 60) := kr_place h3 rfl ho (by omega)
  have hl : (o9 + j) % 60 < 60 := Nat.mod_lt _ (by omega)
  obtain ⟨e0, e1, e2⟩ := hi j hj
  refine ⟨?_, ?_, ?_⟩
  · unfold kf_about
    rw [if_pos rfl, hp, kf_at_nI (by decide) hl]
    exact e0
  · unfold kf_about
    rw [if_neg (by decide), if_pos rfl, hp, kf_at_nI (by decide) hl]
    exact e1
  · unfold kf_about
    rw [if_neg (by decide), if_neg (by decide), hp, kf_at_nI (by decide) hl]
    exact e2
theorem cn_firings (hV : kr_V z) (W : kr_Ws σ B) : kr_cn X z σ τ MX6_firings [.ref 0] MX7_firings [.ref 128] (B + 1000) := by
  intro Q hQ
  obtain ⟨m, fi, o, k, len, hW⟩ := W
  refine m_X6_firings hV.1 (hQ _ _ (fun Q2 h2 => m_X7_firings hV.2.1 ?_))
  rw [← hW.1.1.1.fir]
  exact h2 _ (kr_W4 ⟨m, fi, o, k, len, hW⟩ 0)
theorem cn_next (hV : kr_V z) (W : kr_Ws σ B) (hB : B + 1000 < 16777216) : kr_cn X z σ τ MX6_next [.ref 0] MX7_next [.ref 128] (B + 1000) := by
  intro Q hQ
  obtain ⟨m, fi, o, k, len, hW⟩ := W
  have hfi := hW.2.1
  refine m_X6_next hV.1 (hQ _ _ (fun Q2 h2 => m_X7_next hV.2.1 (kr_hm hW).1 (kr_hm hW).2 (by omega) hW.1.1.2.2.2.1 ?_))
  rw [← hW.1.2]
  exact h2 _ (kr_W4 ⟨m, fi, o, k, len, hW⟩ 0)
theorem cn_events (hV : kr_V z) (W : kr_Ws σ B) : kr_cn X z σ τ MX6_events [.ref 0] MX7_events [.ref 128] (B + 1000) := by
  intro Q hQ
  obtain ⟨m, fi, o, k, len, hW⟩ := W
  obtain ⟨lc, h1, h2', -⟩ := kr_log hW
  refine m_X6_events hV.1 (hQ _ _ (fun Q2 h2 => m_X7_events hV.2.1 ?_))
  rw [h2', ← h1]
  exact h2 _ (kr_W4 ⟨m, fi, o, k, len, hW⟩ 0)
theorem cs_value (x : Int32) (hV : kr_V z) (W : kr_Ws σ B) : kr_cs X z σ τ ML_value [.ref 0, .int x, .ref 133] MX7_value [.ref 128, .int x] (B + 1000) := by
  intro Q hQ
  obtain ⟨m, fi, o, k, len, hW⟩ := W
  refine m_L_value hV.1 hV.2.2.1 (fun Q6 h6 => m_X6_value hV.1 (fun hx => h6 _ _ _ _ ⟨rfl, hQ 0 _ _ _ (fun _ => kr_ut τ 133 _) ?_⟩) (fun hx => h6 _ _ _ _ ⟨rfl, 1, List.mem_cons_self, hQ 1 0 _ _ (fun q => absurd q (by decide)) ?_⟩))
  · intro Q2 h2
    refine m_X7_value hV.2.1 (fun j hj h8 => h2 _ _ (kr_u4 _ _) (fun _ => ?_) (kr_W4 ⟨m, fi, o, k, len, hW⟩ 0)) (fun h => absurd h hx)
    unfold kf_setOr
    rw [hj]
    by_cases q : j = 8
    · subst q
      rw [if_pos (show nI 8 = 8 from rfl)]
      exact hW.1.1.1.cyl.symm
    · rw [if_neg (show ¬ nI j = 8 from fun w => q ((nI_eq (a := j) (b := 8) (by omega) (by decide)).mp w)), kf_at_nI (by decide) (by omega)]
      exact (hW.1.1.1.set (by omega)).symm
  · intro Q2 h2
    exact m_X7_value hV.2.1 (fun j hj h8 => absurd (by rw [hj] at hx; exact hx) (kr_inN (N := 8) h8 (by decide))) (fun _ => h2 _ _ (kr_u4 _ _) (fun q => absurd q (by decide)) (kr_W4 ⟨m, fi, o, k, len, hW⟩ 1))
theorem kr_tell (hW : kr_W σ σ B m fi o k len) {cc : Nat} (hc : cc < 8) (y : Int32) : kf_aboutCyl σ 1 (nI cc) y = kg_tell (kn_up σ 128 4 0) cc y := by
  have et : kf_thr σ 1 (nI cc) = kg_thr (kn_up σ 128 4 0) cc := by
    rw [kr_thr hW.1.1.1 hc]
    unfold kg_thr
    rw [kr_u129]
  unfold kf_aboutCyl kg_tell
  rw [kr_u129, et, kf_at_nI (by decide) hc, kf_at_nI (by decide) hc, kf_at_nI (by decide) hc, kf_at_nI (by decide) hc, hW.1.1.1.fast hc, hW.1.1.1.lev hc, hW.1.1.1.qui hc, hW.1.1.1.kno hc]
theorem kr_isCyl (hW : kr_W σ σ B m fi o k len) (x : Int32) : kf_isCyl σ x = kg_isN m x := by
  unfold kf_isCyl kg_isN
  rw [hW.1.1.1.cyl, (kr_hm hW).1]
theorem cs_cylinder (x y : Int32) (hV : kr_V z) (W : kr_Ws σ B) : kr_cs X z σ τ ML_cylinder [.ref 0, .int x, .int y, .ref 133] MX7_cylinder [.ref 128, .int x, .int y] (B + 1000) := by
  intro Q hQ
  obtain ⟨m, fi, o, k, len, hW⟩ := W
  obtain ⟨m1, m2, m3⟩ := kr_hm hW
  refine m_L_cylinder hV.1 hV.2.2.1 (fun Q6 h6 => m_X6_cylinder hV.1 (fun hx hy => h6 _ _ _ _ ⟨rfl, hQ 0 _ _ _ (fun _ => kr_ut τ 133 _) ?_⟩) (fun hx => h6 _ _ _ _ ⟨rfl, 1, List.mem_cons_self, hQ 1 0 _ _ (fun q => absurd q (by decide)) ?_⟩) (fun hx hy => h6 _ _ _ _ ⟨rfl, 2, List.mem_cons_of_mem _ List.mem_cons_self, hQ 2 0 _ _ (fun q => absurd q (by decide)) ?_⟩))
  · intro Q2 h2
    rw [kr_isCyl hW] at hx
    exact m_X7_cylinder hV.2.1 m1 ⟨m2, m3⟩ (fun cc hc hcm _ => h2 _ _ (kr_u4 _ _) (fun _ => by rw [hc, kr_tell hW (by omega)]) (kr_W4 ⟨m, fi, o, k, len, hW⟩ 0)) (fun h => absurd h hx) (fun _ h => absurd h hy)
  · intro Q2 h2
    rw [kr_isCyl hW] at hx
    exact m_X7_cylinder hV.2.1 m1 ⟨m2, m3⟩ (fun cc hc hcm _ => absurd (by rw [hc] at hx; exact hx) (kg_isN_in hcm (by omega))) (fun _ => h2 _ _ (kr_u4 _ _) (fun q => absurd q (by decide)) (kr_W4 ⟨m, fi, o, k, len, hW⟩ 1)) (fun h _ => absurd hx h)
  · intro Q2 h2
    rw [kr_isCyl hW] at hx
    exact m_X7_cylinder hV.2.1 m1 ⟨m2, m3⟩ (fun cc hc hcm h => absurd hy h) (fun h => absurd h hx) (fun _ _ => h2 _ _ (kr_u4 _ _) (fun q => absurd q (by decide)) (kr_W4 ⟨m, fi, o, k, len, hW⟩ 2))
theorem cs_learned (x y : Int32) (hV : kr_V z) (W : kr_Ws σ B) : kr_cs X z σ τ ML_learned [.ref 0, .int x, .int y, .ref 133] MX7_learned [.ref 128, .int x, .int y] (B + 1000) := by
  intro Q hQ
  obtain ⟨m, fi, o, k, len, hW⟩ := W
  refine m_L_learned hV.1 hV.2.2.1 (fun Q6 h6 => m_X6_learned hV.1 (fun hx => h6 _ _ _ _ ⟨rfl, hQ 0 _ _ _ (fun _ => kr_ut τ 133 _) ?_⟩) (fun hx => h6 _ _ _ _ ⟨rfl, 1, List.mem_cons_self, hQ 1 0 _ _ (fun q => absurd q (by decide)) ?_⟩))
  · intro Q2 h2
    refine m_X7_learned hV.2.1 (fun r j hr hj hr5 hj3 => h2 _ _ (kr_u4 _ _) (fun _ => ?_) (kr_W4 ⟨m, fi, o, k, len, hW⟩ 0)) (fun h => absurd h hx)
    rw [hr, hj, show (4 : Int32) = nI 4 from rfl, pk_mul, nI_add, kf_at_nI (by decide) (by omega), Nat.add_assoc 49]
    exact (hW.1.1.1.lea (by omega)).symm
  · intro Q2 h2
    exact m_X7_learned hV.2.1 (fun r j hr hj hr5 hj3 => absurd (by rw [hr, hj] at hx; exact hx) (kr_cellIn hr5 hj3)) (fun _ => h2 _ _ (kr_u4 _ _) (fun q => absurd q (by decide)) (kr_W4 ⟨m, fi, o, k, len, hW⟩ 1))
theorem kg_ret4 (cc cl : Nat) (v : Int32) : kg_ret (kn_up σ 128 4 v) cc cl = kg_ret σ cc cl := by
  unfold kg_ret
  rw [kr_u129]
theorem cs_angle (x y w v : Int32) (hV : kr_V z) (W : kr_Ws σ B) : kr_cs X z σ τ ML_angle [.ref 0, .int x, .int y, .int w, .int v, .ref 133] MX7_angle [.ref 128, .int x, .int y, .int w, .int v] (B + 1000) := by
  intro Q hQ
  obtain ⟨m, fi, o, k, len, hW⟩ := W
  obtain ⟨m1, m2, m3⟩ := kr_hm hW
  obtain ⟨cl, hcl⟩ := kr_cl y w
  refine m_L_angle hV.1 hV.2.2.1 (fun Q6 h6 => m_X6_angle hV.1 (fun hx hy => h6 _ _ _ _ ⟨rfl, hQ 0 _ _ _ (fun _ => kr_ut τ 133 _) ?_⟩) (fun hx => h6 _ _ _ _ ⟨rfl, 1, List.mem_cons_self, hQ 1 0 _ _ (fun q => absurd q (by decide)) ?_⟩) (fun hx hy => h6 _ _ _ _ ⟨rfl, 2, List.mem_cons_of_mem _ List.mem_cons_self, hQ 2 0 _ _ (fun q => absurd q (by decide)) ?_⟩))
  · intro Q2 h2
    rw [kr_isCyl hW] at hx
    obtain ⟨c1, c2⟩ := hcl hy
    refine m_X7_angle hV.2.1 m1 ⟨m2, m3⟩ hcl (fun cc hc hcm _ => h2 _ _ (kr_u4 _ _) (fun _ => ?_) (kr_W4 ⟨m, fi, o, k, len, hW⟩ 0)) (fun h => absurd h hx) (fun _ h => absurd h hy)
    unfold kf_adv kf_badv
    rw [hc, c1, kr_ret hW.1.1 (by omega) c2, kg_ret4]
  · intro Q2 h2
    rw [kr_isCyl hW] at hx
    exact m_X7_angle hV.2.1 m1 ⟨m2, m3⟩ hcl (fun cc hc hcm _ => absurd (by rw [hc] at hx; exact hx) (kg_isN_in hcm (by omega))) (fun _ => h2 _ _ (kr_u4 _ _) (fun q => absurd q (by decide)) (kr_W4 ⟨m, fi, o, k, len, hW⟩ 1)) (fun h _ => absurd hx h)
  · intro Q2 h2
    rw [kr_isCyl hW] at hx
    exact m_X7_angle hV.2.1 m1 ⟨m2, m3⟩ hcl (fun cc hc hcm h => absurd hy h) (fun h => absurd h hx) (fun _ _ => h2 _ _ (kr_u4 _ _) (fun q => absurd q (by decide)) (kr_W4 ⟨m, fi, o, k, len, hW⟩ 2))
theorem cs_status (x : Int32) (hV : kr_V z) (W : kr_Ws σ B) : kr_cs X z σ τ ML_status [.ref 0, .int x, .ref 133] MX7_status [.ref 128, .int x] (B + 1000) := by
  intro Q hQ
  obtain ⟨m, fi, o, k, len, hW⟩ := W
  refine m_L_status hV.1 hV.2.2.1 (fun Q6 h6 => m_X6_status hV.1 (fun hx => h6 _ _ _ _ ⟨rfl, hQ 0 _ _ _ (fun _ => kr_ut τ 133 _) ?_⟩) (fun hx => h6 _ _ _ _ ⟨rfl, 1, List.mem_cons_self, hQ 1 0 _ _ (fun q => absurd q (by decide)) ?_⟩))
  · intro Q2 h2
    refine m_X7_status hV.2.1 (fun j hj h4 => h2 _ _ (kr_u4 _ _) (fun _ => ?_) (kr_W4 ⟨m, fi, o, k, len, hW⟩ 0)) (fun h => absurd h hx)
    have : j = 0 ∨ j = 1 ∨ j = 2 ∨ j = 3 ∨ j = 4 := by omega
    rw [hj]
    rcases this with rfl | rfl | rfl | rfl | rfl
    · show σ 129 12 = if σ 1 12 = 0 then 0 else 1
      rw [hW.1.1.1.fau]
      rcases hW.1.1.2.2.2.2.1.2 with q | q <;> rw [q] <;> rfl
    · exact hW.1.1.1.low.symm
    · exact hW.1.1.1.goo.symm
    · exact hW.1.1.1.ste.symm
    · exact hW.1.1.1.las.symm
  · intro Q2 h2
    exact m_X7_status hV.2.1 (fun j hj h4 => absurd (by rw [hj] at hx; exact hx) (kr_inN (N := 4) h4 (by decide))) (fun _ => h2 _ _ (kr_u4 _ _) (fun q => absurd q (by decide)) (kr_W4 ⟨m, fi, o, k, len, hW⟩ 1))
theorem kg_gr_ge (t : kn_S) : ∀ m j, j < m → (t 129 (17 + j)).toInt ≤ (kg_gr t m).toInt
  | 0, j, h => absurd h (by omega)
  | m + 1, j, h => by
    unfold kg_gr
    rw [kr_maxE, kf_max_i]
    by_cases q : j = m
    · subst q; omega
    · have := kg_gr_ge t m j (by omega); omega
theorem kr_lf (hA : kr_A σ 1 (σ 129)) (hm : m ≤ 8) : ∀ j, j < m → kg_lf σ m (j + 1) = kf_fold (fun k => σ 5 (k + 1)) kf_min (σ 5 0) j
  | 0, hj => by
    show kf_min (kg_gr σ m) (σ 129 (17 + 0)) = σ 5 0
    rw [hA.fast (c := 0) (by decide)]
    have := kg_gr_ge σ m 0 hj
    exact Int32.toInt_inj.mp (by rw [kf_min_i]; omega)
  | j + 1, hj => by
    show kf_min (kg_lf σ m (j + 1)) (σ 129 (17 + (j + 1))) = kf_min (kf_fold (fun k => σ 5 (k + 1)) kf_min (σ 5 0) j) (σ 5 (j + 1))
    rw [kr_lf hA hm j (by omega), ← hA.fast (by omega)]
theorem kr_gr4 (v : Int32) : ∀ j, kg_gr (kn_up σ 128 4 v) j = kg_gr σ j
  | 0 => rfl
  | j + 1 => by unfold kg_gr; rw [kr_gr4 v j, kr_u129]
theorem kr_lf4 (v : Int32) : ∀ j, kg_lf (kn_up σ 128 4 v) m j = kg_lf σ m j
  | 0 => kr_gr4 v m
  | j + 1 => by unfold kg_lf; rw [kr_lf4 v j, kr_u129]
theorem cn_unfairness (hV : kr_V z) (W : kr_Ws σ B) : kr_cn X z σ τ MX6_unfairness [.ref 0] MX7_unfairness [.ref 128] (B + 1000) := by
  intro Q hQ
  obtain ⟨m, fi, o, k, len, hW⟩ := W
  obtain ⟨m1, m2, m3⟩ := kr_hm hW
  refine m_X6_unfairness hV.1 (hW.1.1.1.cyl.trans m1) ⟨m2, m3⟩ (hQ _ _ (fun Q2 h2 => m_X7_unfairness hV.2.1 m1 ⟨m2, m3⟩ ?_))
  have eg : kf_gf σ 1 m = kg_gr σ m := by
    unfold kf_gf
    rw [kr_gf hW.1.1.1 hW.1.1.2.2 (m - 1) (by omega)]
    exact congrArg (kg_gr σ) (by omega)
  have es : kf_sf σ 1 m = kg_lf σ m m := by
    have h := kr_lf hW.1.1.1 m3 (m - 1) (by omega)
    rw [show m - 1 + 1 = m by omega] at h
    exact h.symm
  rw [kr_gr4, kr_lf4, ← eg, ← es]
  exact h2 _ (kr_W4 ⟨m, fi, o, k, len, hW⟩ 0)
theorem cs_event (x y : Int32) (hV : kr_V z) (W : kr_Ws σ B) : kr_cs X z σ τ ML_event [.ref 0, .int x, .int y, .ref 133] MX7_event [.ref 128, .int x, .int y] (B + 1000) := by
  intro Q hQ
  obtain ⟨m, fi, o, k, len, hW⟩ := W
  obtain ⟨lc, l1, l2, l3, l4⟩ := kr_log hW
  have e : kf_within x 0 (σ 14 4 - 1) = kg_isN lc x := by rw [l1]; rfl
  refine m_L_event hV.1 hV.2.2.1 (fun Q6 h6 => m_X6_event hV.1 (fun hx hy => h6 _ _ _ _ ⟨rfl, hQ 0 _ _ _ (fun _ => kr_ut τ 133 _) ?_⟩) (fun hx => h6 _ _ _ _ ⟨rfl, 1, List.mem_cons_self, hQ 1 0 _ _ (fun q => absurd q (by decide)) ?_⟩) (fun hx hy => h6 _ _ _ _ ⟨rfl, 2, List.mem_cons_of_mem _ List.mem_cons_self, hQ 2 0 _ _ (fun q => absurd q (by decide)) ?_⟩))
  · intro Q2 h2
    rw [e] at hx
    refine m_X7_event hV.2.1 l2 l3 (fun j w hj hw hjl hw2 => h2 _ _ (kr_u4 _ _) (fun _ => ?_) (kr_W4 ⟨m, fi, o, k, len, hW⟩ 0)) (fun h => absurd h hx) (fun _ h => absurd h hy)
    obtain ⟨e0, e1, e2⟩ := l4 j hjl
    have : w = 0 ∨ w = 1 ∨ w = 2 := by omega
    rw [hj, hw]
    rcases this with rfl | rfl | rfl
    · exact e0.symm
    · exact e1.symm
    · exact e2.symm
  · intro Q2 h2
    rw [e] at hx
    exact m_X7_event hV.2.1 l2 l3 (fun j w hj hw hjl hw2 => absurd (by rw [hj] at hx; exact hx) (kg_isN_in hjl (by omega))) (fun _ => h2 _ _ (kr_u4 _ _) (fun q => absurd q (by decide)) (kr_W4 ⟨m, fi, o, k, len, hW⟩ 1)) (fun h _ => absurd hx h)
  · intro Q2 h2
    rw [e] at hx
    exact m_X7_event hV.2.1 l2 l3 (fun j w hj hw hjl hw2 => absurd (by rw [hw] at hy; exact hy) (kr_inN (N := 2) hw2 (by decide))) (fun h => absurd h hx) (fun _ _ => h2 _ _ (kr_u4 _ _) (fun q => absurd q (by decide)) (kr_W4 ⟨m, fi, o, k, len, hW⟩ 2))
theorem cs_eventsOf (x : Int32) (hV : kr_V z) (W : kr_Ws σ B) : kr_cs X z σ τ ML_eventsOf [.ref 0, .int x, .ref 133] MX7_eventsOf [.ref 128, .int x] (B + 1000) := by
  intro Q hQ
  obtain ⟨m, fi, o, k, len, hW⟩ := W
  obtain ⟨lc, l1, l2, l3, l4⟩ := kr_log hW
  have ev : ∀ j, j ≤ lc → kf_evs σ x j = kg_evo (kn_up σ 128 4 0) x j := by
    intro j
    induction j with
    | zero => intro _; rfl
    | succ j ih =>
      intro hj
      show (if kf_about σ 14 (nI j) 0 = x then kf_evs σ x j + 1 else kf_evs σ x j) = kg_evo (kn_up σ 128 4 0) x j + (if kn_up σ 128 4 0 129 (74 + 3 * j) = x then 1 else 0)
      rw [(l4 j (by omega)).1, kr_u129, ih (by omega)]
      split
      · rfl
      · exact (Int32.add_zero _).symm
  refine m_L_eventsOf hV.1 hV.2.2.1 (fun Q6 h6 => m_X6_eventsOf hV.1 l1 l3 (fun hx => h6 _ _ _ _ ⟨rfl, hQ 0 _ _ _ (fun _ => kr_ut τ 133 _) ?_⟩) (fun hx => h6 _ _ _ _ ⟨rfl, 1, List.mem_cons_self, hQ 1 0 _ _ (fun q => absurd q (by decide)) ?_⟩))
  · intro Q2 h2
    exact m_X7_eventsOf hV.2.1 l2 l3 (fun _ => h2 _ _ (kr_u4 _ _) (fun _ => (ev lc (Nat.le_refl _)).symm) (kr_W4 ⟨m, fi, o, k, len, hW⟩ 0)) (fun h => absurd h hx)
  · intro Q2 h2
    exact m_X7_eventsOf hV.2.1 l2 l3 (fun h => absurd hx h) (fun _ => h2 _ _ (kr_u4 _ _) (fun q => absurd q (by decide)) (kr_W4 ⟨m, fi, o, k, len, hW⟩ 1))
theorem cs_limit (x y w v : Int32) (hV : kr_V z) (W : kr_Ws σ B) : kr_cs X z σ τ ML_limit [.ref 0, .int x, .int y, .int w, .int v, .ref 133] MX7_limit [.ref 128, .int x, .int y, .int w, .int v] (B + 1000) := by
  intro Q hQ
  obtain ⟨m, fi, o, k, len, hW⟩ := W
  obtain ⟨m1, m2, m3⟩ := kr_hm hW
  obtain ⟨cl, hcl⟩ := kr_cl y w
  refine m_L_limit hV.1 hV.2.2.1 (fun Q6 h6 => m_X6_limit hV.1 (fun hx hy => h6 _ _ _ _ ⟨rfl, hQ 0 _ _ _ (fun _ => kr_ut τ 133 _) ?_⟩) (fun hx hc hy => h6 _ _ _ _ ⟨rfl, hQ 0 _ _ _ (fun _ => kr_ut τ 133 _) ?_⟩) (fun hx hc => h6 _ _ _ _ ⟨rfl, 1, List.mem_cons_self, hQ 1 0 _ _ (fun q => absurd q (by decide)) ?_⟩) (fun hx hy => h6 _ _ _ _ ⟨rfl, 2, List.mem_cons_of_mem _ List.mem_cons_self, hQ 2 0 _ _ (fun q => absurd q (by decide)) ?_⟩))
  · intro Q2 h2
    obtain ⟨y1, y2⟩ := kr_and hy
    exact m_m_X7_limit_n hV.2.1 hx (fun _ _ => h2 _ _ (kr_u4 _ _) (fun _ => rfl) (kr_W4 ⟨m, fi, o, k, len, hW⟩ 0)) (fun h => by rcases h with h | h; exact absurd h y1; exact absurd h y2)
  · intro Q2 h2
    rw [kr_isCyl hW] at hc
    obtain ⟨y1, y2⟩ := kr_and hy
    obtain ⟨c1, c2⟩ := hcl y1
    refine m_m_X7_limit_c hV.2.1 m1 ⟨m2, m3⟩ hx hcl (fun cc hcc hcm _ _ => h2 _ _ (kr_u4 _ _) (fun _ => ?_) (kr_W4 ⟨m, fi, o, k, len, hW⟩ 0)) (fun h => absurd h hc) (fun _ h => by rcases h with h | h; exact absurd h y1; exact absurd h y2)
    unfold kf_adv kf_badv
    rw [hcc, c1, kr_ret hW.1.1 (by omega) c2, kg_ret4]
  · intro Q2 h2
    rw [kr_isCyl hW] at hc
    exact m_m_X7_limit_c hV.2.1 m1 ⟨m2, m3⟩ hx hcl (fun cc hcc hcm _ _ => absurd (by rw [hcc] at hc; exact hc) (kg_isN_in hcm (by omega))) (fun _ => h2 _ _ (kr_u4 _ _) (fun q => absurd q (by decide)) (kr_W4 ⟨m, fi, o, k, len, hW⟩ 1)) (fun h _ => absurd hc h)
  · intro Q2 h2
    have hn := kr_and0 hy
    by_cases q : x = -1
    · exact m_m_X7_limit_n hV.2.1 q (fun a b => by rcases hn with h | h; exact absurd h a; exact absurd h b) (fun _ => h2 _ _ (kr_u4 _ _) (fun q => absurd q (by decide)) (kr_W4 ⟨m, fi, o, k, len, hW⟩ 2))
    · have hc : ¬ kg_isN m x = 0 := by
        rw [← kr_isCyl hW]
        rcases hx with h | h
        · exact absurd h q
        · exact h
      exact m_m_X7_limit_c hV.2.1 m1 ⟨m2, m3⟩ q hcl (fun cc hcc hcm a b => by rcases hn with h | h; exact absurd h a; exact absurd h b) (fun h => absurd h hc) (fun _ _ => h2 _ _ (kr_u4 _ _) (fun q => absurd q (by decide)) (kr_W4 ⟨m, fi, o, k, len, hW⟩ 2))
end KRCS
