-- looking ahead, the recorded firings, the digest
section KRW
variable {σ s s' t t' T σ2 : kn_S} {B B' m fi o k len m' fi' : Nat}
theorem kr_W.to2 (h : kr_W s t B m fi o k len) (hB : B ≤ B') (hs : ∀ a, 1 ≤ a → a < 128 → (a < 21 ∨ 41 ≤ a) → a ≠ 127 → s' a = s a ∨ (a = 123 ∧ s' 123 2 = s 123 2)) (h129 : ∀ j, j < 254 → t' 129 j = t 129 j) (h130 : t' 130 = t 130) (h132 : t' 132 = t 132) (h3 : t' 128 3 = t 128 3) (h6 : t' 128 6 = t 128 6) : kr_W s' t' B' m fi o k len := by
  obtain ⟨hR, hfi, hH, t1, t2, t3, t4⟩ := h
  have hs1 : ∀ a, 1 ≤ a → a < 123 → (a < 21 ∨ 41 ≤ a) → s' a = s a := fun a q1 q2 q3 => by
    rcases hs a q1 (by omega) q3 (by omega) with h | h
    · exact h
    · omega
  refine ⟨(hR.to fun a q1 q2 => hs1 a (by omega) (by omega) (by omega)).of h129, by omega, hH.to hB (fun a q1 q2 => hs1 a (by omega) (by omega) (by omega)) h3 h130, ?_, ?_, t3, fun i hi => ?_⟩
  · rcases hs 123 (by decide) (by decide) (by decide) (by decide) with h | h
    · rw [h]; exact t1
    · rw [h.2]; exact t1
  · rw [h6]; exact t2
  · have e : s' 125 = s 125 := by
      rcases hs 125 (by decide) (by decide) (by decide) (by decide) with h | h
      · exact h
      · omega
    rw [e, h132]; exact t4 i hi
theorem kr_fin2 (hW : kr_W σ σ B m fi o k len) (hs : ∀ a, a < 1 ∨ 21 ≤ a → s' a = kf_keepH σ 41 1 o k a) (hT : ∀ a, 129 ≤ a → T a = σ a) (hT3 : T 128 3 = σ 128 3) (hT6 : T 128 6 = σ 128 6) (hlo : ∀ a, a < 128 → σ2 a = s' a) (h2 : ∀ a, 130 ≤ a → σ2 a = kg_saves T k a) (h3 : σ2 128 3 = kg_saves T k 128 3) (h6 : σ2 128 6 = kg_saves T k 128 6) (hR : kr_R s' 1 (σ2 129) m' fi') (hfi : fi' ≤ B') (hB : B ≤ B') : kr_Ws σ2 B' := by
  obtain ⟨hR0, hfi0, hH0, t1, t2, t3, t4⟩ := hW
  have hhi : ∀ a, 123 ≤ a → s' a = σ a := fun a ha => by rw [hs a (by omega), kf_keepH_ne _ _ _ (by omega)]
  have hH : kr_H σ T B o k := hH0.to (Nat.le_refl _) (fun _ _ _ => rfl) hT3 (hT 130 (by decide))
  have hS := kr_save hH (by rw [hT 129 (by decide)]; exact hR0) hfi0
  refine ⟨m', fi', _, _, len, hR.to fun a q1 q2 => hlo a (by omega), hfi, hS.to hB (fun a q1 q2 => ?_) h3 (h2 130 (by decide)), ?_, ?_, t3, fun i hi => ?_⟩
  · rw [hlo a (by omega), hs a (by omega)]
  · rw [hlo 123 (by decide), hhi 123 (by decide)]; exact t1
  · rw [h6, kg_saves_6, hT6]; exact t2
  · rw [hlo 125 (by decide), hhi 125 (by decide), h2 132 (by decide), kg_saves_ne _ _ (by decide) (by decide), hT 132 (by decide)]
    exact t4 i hi
end KRW
theorem kr_oct80 {oc : Nat} (h1 : 80 ≤ oc) (h2 : oc ≤ 110) : ¬ kf_within (nI oc) 80 110 = 0 := by
  unfold kf_within
  rw [if_neg (show ¬ nI oc < 80 from nI_nlt (b := 80) h1 (by omega)), if_neg (show ¬ (110 : Int32) < nI oc from nI_nlt (a := 110) h2 (by decide))]
  decide
theorem kr_low {σ0 s0 : kn_S} {x y : Int32} {m fi cl cnt : Nat} (hop : ¬ kf_isOp x y = 0) (hce : kf_cell x y = nI cl) (hcl : cl < 24) (hc : cnt ≤ 100) (hfi : fi + 1000 < 2 ^ 31) (h0 : ∀ j, j < 254 → s0 129 j = σ0 129 j) : ∀ (r oc : Nat) (s t : kn_S), oc + r = 111 → 80 ≤ oc → kr_R s 1 (σ0 129) m fi → kg_sm t s0 →
    (kf_low m cnt x y r oc s).1 = (kg_lo m cl x y cnt r oc t).1 ∧ kg_sm (kg_lo m cl x y cnt r oc t).2 s0 ∧ ∀ a, a ≠ 129 → (kg_lo m cl x y cnt r oc t).2 a = t a
  | 0, oc, s, t, hr, ho, hR, ht => ⟨rfl, ht, fun _ _ => rfl⟩
  | r + 1, oc, s, t, hr, ho, hR, ht => by
    have hcp : kr_R (kf_cpySt s 21 1) 21 (kg_it t m cl x y (nI oc) 0 129) m (fi + 0) := (kr_cpy (by omega) hR).of (fun j hj => (ht.1 j hj).trans (h0 j hj))
    have hsq := kr_sq (t0 := t) ⟨hop, kr_oct80 ho (by omega), hce, hcl⟩ cnt 0 _ hcp (by omega)
    rw [Nat.zero_add] at hsq
    have hbk : kg_sm (kg_bk (kg_lL t m cl x y (nI oc) cnt 0).2) s0 := kg_bk_sm ht (kg_lL_ne t m cl x y _ (by decide) cnt 0)
    have hne : ∀ a, a ≠ 129 → kg_bk (kg_lL t m cl x y (nI oc) cnt 0).2 a = t a := fun a ha => by
      show kg_cpy _ 129 0 131 0 254 a = t a
      rw [kg_cpy_ne _ ha, kg_lL_ne t m cl x y _ ha cnt 0]
    unfold kf_low kg_lo
    by_cases q : (kg_lL t m cl x y (nI oc) cnt 0).1 = cnt
    · rw [if_neg (fun w => hsq.mp w q), if_pos q]
      exact ⟨rfl, hbk, hne⟩
    · rw [if_pos (hsq.mpr q), if_neg q]
      obtain ⟨g1, g2, g3⟩ := kr_low hop hce hcl hc hfi h0 r (oc + 1) (kf_sqL m x y (nI oc) cnt (kf_cpySt s 21 1)).2 (kg_bk (kg_lL t m cl x y (nI oc) cnt 0).2) (by omega) (by omega) (hR.to fun a q1 q2 => by rw [kf_sqL_ne m x y _ (by omega), kf_cpySt_ne _ (by omega)]) hbk
      exact ⟨g1, g2, fun a ha => (g3 a ha).trans (hne a ha)⟩
section KRCS
variable {X : kn_X} {z : kn_Z} {σ : kn_S} {τ : kn_T} {B m fi o k len : Nat}
theorem kg_as_ne (s : kn_S) {a : Nat} (h1 : a ≠ 131) (h2 : a ≠ 128) : kg_as s a = s a := by
  show kg_cpy (kn_up s 128 4 0) 131 0 129 0 254 a = s a
  rw [kg_cpy_ne _ h1, kn_up_ne _ _ _ h2]
theorem kg_as_128 (s : kn_S) : kg_as s 128 = kn_up s 128 4 0 128 := by
  show kg_cpy (kn_up s 128 4 0) 131 0 129 0 254 128 = _
  rw [kg_cpy_ne _ (by decide)]
theorem cs_quietAfter (x y w : Int32) (hV : kr_V z) (W : kr_Ws σ B) (hB : B + 2000 < 2 ^ 31) : kr_cs X z σ τ ML_quietAfter [.ref 0, .int x, .int y, .int w, .ref 133] MX7_quietAfter [.ref 128, .int x, .int y, .int w] (B + 1000) := by
  intro Q hQ
  obtain ⟨m, fi, o, k, len, hW⟩ := W
  have hI := hW.I
  have hfi := hW.2.1
  obtain ⟨m1, m2, m3⟩ := kr_hm hW
  obtain ⟨cl, hcl⟩ := kr_cl x y
  refine m_L_quietAfter hV.1 hV.2.2.1 (fun Q6 h6 => m_X6_quietAfter hV.1 hI (fun hx => h6 _ _ _ _ ⟨rfl, hQ 0 _ _ _ (fun _ => kr_ut τ 133 _) ?_⟩) (fun hx => h6 _ _ _ _ ⟨rfl, 1, List.mem_cons_self, hQ 1 0 _ _ (fun q => absurd q (by decide)) ?_⟩))
  · intro Q2 h2
    obtain ⟨x1, x2⟩ := kr_and hx
    obtain ⟨c1, c2⟩ := hcl x1
    have ho : kr_op x y w cl := ⟨x1, x2, c1, c2⟩
    have hwant : 5 * kf_cpySt σ 21 1 1 7 = 5 * nI m := by rw [kf_cpySt_ne _ (by omega), hW.1.1.1.cyl, m1]
    have hs1 : ∀ a, a < 21 ∨ 41 ≤ a → (kf_qa m x y w (5 * kf_cpySt σ 21 1 1 7) 1000 1 (kf_cpySt σ 21 1) 0).2 a = σ a := fun a ha => by rw [kf_qa_ne ha, kf_cpySt_ne _ (by omega)]
    obtain ⟨s1, es1⟩ : ∃ s1, s1 = (kf_qa m x y w (5 * kf_cpySt σ 21 1 1 7) 1000 1 (kf_cpySt σ 21 1) 0).2 := ⟨_, rfl⟩
    rw [← es1] at hs1 ⊢
    have e129 : kg_as s1 129 = σ 129 := by rw [kg_as_ne _ (by decide) (by decide), hs1 129 (by decide)]
    have hR : kr_R σ 1 (kg_as s1 129) m fi := by rw [e129]; exact hW.1
    have hit := fun j hj => kr_it hR ho j hj
    have hcp : kr_R (kf_cpySt σ 21 1) 21 (kg_it (kg_as s1) m cl x y w 0 129) m (fi + 0) := kr_cpy (by omega) hR
    have hval := kr_qa (t0 := kg_as s1) ⟨hW.1.1.2.2.1.2.1, m3⟩ hwant ho 1000 0 0 _ hcp (by omega) (by omega)
    refine m_X7_quietAfter (m := m) hV.2.1 hcl (fun _ _ => ⟨fun j hj => (hit j (by omega)).2, fun j hj => (hit j (by omega)).1.1.1⟩) (fun _ _ => h2 _ _ ?_ (fun _ => hval.symm) ⟨m, fi, o, k, len, ?_⟩) (fun h => by rcases h with h | h; exact absurd h x1; exact absurd h x2)
    · show kg_cpy _ 129 0 131 0 254 128 4 = 0
      rw [kg_cpy_ne _ (by decide), kg_it_ne _ _ _ _ _ _ (by decide), kg_as_128, kr_u4]
    · have hsm := kg_bk_sm (t := kg_it (kg_as s1) m cl x y w (kg_qL (kg_as s1) m cl x y w 1000 0 0).1) (kg_as_sm s1) (kg_it_ne _ _ _ _ _ _ (by decide) _)
      have hne : ∀ a, a ≠ 129 → kg_bk (kg_it (kg_as s1) m cl x y w (kg_qL (kg_as s1) m cl x y w 1000 0 0).1) a = kg_as s1 a := fun a ha => by
        show kg_cpy _ 129 0 131 0 254 a = _
        rw [kg_cpy_ne _ ha, kg_it_ne _ _ _ _ _ _ ha]
      refine hW.to2 (by omega) (fun a q1 q2 q3 _ => Or.inl ?_) (fun j hj => ?_) ?_ ?_ ?_ ?_
      · rw [hne a (by omega), kg_as_ne _ (by omega) (by omega), hs1 a q3]
      · rw [hsm.1 j hj, hs1 129 (by decide)]
      · rw [hne 130 (by decide), kg_as_ne _ (by decide) (by decide), hs1 130 (by decide)]
      · rw [hne 132 (by decide), kg_as_ne _ (by decide) (by decide), hs1 132 (by decide)]
      · rw [hne 128 (by decide), kg_as_128, kn_upk (by decide), hs1 128 (by decide)]
      · rw [hne 128 (by decide), kg_as_128, kn_upk (by decide), hs1 128 (by decide)]
  · intro Q2 h2
    have hn := kr_and0 hx
    exact m_X7_quietAfter (m := m) hV.2.1 hcl (fun a b => by rcases hn with h | h; exact absurd h a; exact absurd h b) (fun a b => by rcases hn with h | h; exact absurd h a; exact absurd h b) (fun _ => h2 _ _ (kr_u4 _ _) (fun q => absurd q (by decide)) (kr_W4 ⟨m, fi, o, k, len, hW⟩ 1))
theorem cs_lowestOctane (x y v : Int32) (hV : kr_V z) (W : kr_Ws σ B) (hB : B + 2000 < 2 ^ 31) : kr_cs X z σ τ ML_lowestOctane [.ref 0, .int x, .int y, .int v, .ref 133] MX7_lowestOctane [.ref 128, .int x, .int y, .int v] (B + 1000) := by
  intro Q hQ
  obtain ⟨m, fi, o, k, len, hW⟩ := W
  have hI := hW.I
  have hfi := hW.2.1
  obtain ⟨m1, m2, m3⟩ := kr_hm hW
  obtain ⟨cl, hcl⟩ := kr_cl x y
  refine m_L_lowestOctane hV.1 hV.2.2.1 (fun Q6 h6 => m_X6_lowestOctane hV.1 hI (fun cnt hcv hc hx => h6 _ _ _ _ ⟨rfl, hQ 0 _ _ _ (fun _ => kr_ut τ 133 _) ?_⟩) (fun hx => h6 _ _ _ _ ⟨rfl, 1, List.mem_cons_self, hQ 1 0 _ _ (fun q => absurd q (by decide)) ?_⟩))
  · intro Q2 h2
    obtain ⟨x1, x2⟩ := kr_and hx
    obtain ⟨c1, c2⟩ := hcl x1
    have hs1 : ∀ a, a < 21 ∨ 41 ≤ a → (kf_low m cnt x y 31 80 σ).2 a = σ a := fun a ha => kf_low_ne ha 31 80 σ
    obtain ⟨s1, es1⟩ : ∃ s1, s1 = (kf_low m cnt x y 31 80 σ).2 := ⟨_, rfl⟩
    rw [← es1] at hs1 ⊢
    obtain ⟨g1, g2, g3⟩ := kr_low (cnt := cnt) x1 c1 c2 hc (by omega) (s0 := s1) (σ0 := σ) (fun j _ => by rw [hs1 129 (by decide)]) 31 80 σ (kg_as s1) rfl (by decide) hW.1 (kg_as_sm s1)
    have hcc : ∀ cnt', v = nI cnt' → cnt' ≤ 100 → cnt' = cnt := fun c' e1 e2 => (nI_eq (by omega) (by omega)).mp (e1.symm.trans hcv)
    refine m_X7_lowestOctane (m := m) hV.2.1 hcl (fun c' e1 e2 _ _ s9 oc j hsm ho1 ho2 hj => ?_) (fun c' e1 e2 _ _ => ?_) (fun h => by rcases h with h | h; exact absurd h x1; exact absurd h x2)
    · obtain rfl := hcc c' e1 e2
      have hR : kr_R σ 1 (s9 129) m fi := hW.1.of fun j hj => by rw [hsm.1 j hj, hs1 129 (by decide)]
      exact (kr_it hR ⟨x1, kr_oct80 ho1 ho2, c1, c2⟩ j (by omega)).2
    · obtain rfl := hcc c' e1 e2
      refine h2 _ _ ?_ (fun _ => g1.symm) ⟨m, fi, o, k, len, hW.to2 (by omega) (fun a q1 q2 q3 _ => Or.inl ?_) (fun j hj => ?_) ?_ ?_ ?_ ?_⟩
      · rw [g3 128 (by decide), kg_as_128, kr_u4]
      · rw [g3 a (by omega), kg_as_ne _ (by omega) (by omega), hs1 a q3]
      · rw [g2.1 j hj, hs1 129 (by decide)]
      · rw [g3 130 (by decide), kg_as_ne _ (by decide) (by decide), hs1 130 (by decide)]
      · rw [g3 132 (by decide), kg_as_ne _ (by decide) (by decide), hs1 132 (by decide)]
      · rw [g3 128 (by decide), kg_as_128, kn_upk (by decide), hs1 128 (by decide)]
      · rw [g3 128 (by decide), kg_as_128, kn_upk (by decide), hs1 128 (by decide)]
  · intro Q2 h2
    have hn := kr_and0 hx
    exact m_X7_lowestOctane (m := m) hV.2.1 hcl (fun _ _ _ a b => by rcases hn with h | h; exact absurd h a; exact absurd h b) (fun _ _ _ a b => by rcases hn with h | h; exact absurd h a; exact absurd h b) (fun _ => h2 _ _ (kr_u4 _ _) (fun q => absurd q (by decide)) (kr_W4 ⟨m, fi, o, k, len, hW⟩ 1))
end KRCS
