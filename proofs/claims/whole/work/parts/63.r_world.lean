/-! BOTH SIDES IN ONE WORLD: the class's cells below 128, the reference's from 128 on. -/
def kr_V (z : kn_Z) : Prop := kn_isK z ∧ kn_isM z ∧ (133 < z.1 ∧ z.2 133 = .inr (.inl (1, 1))) ∧ (134 < z.1 ∧ z.2 134 = .inr (.inl (2, 1)))
def kr_W (s t : kn_S) (B m fi o k len : Nat) : Prop := kr_R s 1 (t 129) m fi ∧ fi ≤ B ∧ kr_H s t B o k ∧ (s 123 2 = nI len ∧ t 128 6 = nI len ∧ len ≤ 120 ∧ ∀ i, i < len → s 125 i = t 132 i)
def kr_Ws (σ : kn_S) (B : Nat) : Prop := ∃ m fi o k len, kr_W σ σ B m fi o k len
section KRW
variable {σ s s' t t' σ2 : kn_S} {B B' m fi o k len m' fi' : Nat}
theorem kr_W.I (h : kr_W s t B m fi o k len) : kn_I s m o k len := by
  obtain ⟨⟨hX, hn⟩, hfi, ⟨⟨h1, h2, h3⟩, h4, h5⟩, t1, t2, t3, t4⟩ := h
  have hm := hX.2.2.1.2
  refine ⟨⟨hX.1.cyl.trans hX.2.2.1.1, by omega, hm.2⟩, ⟨h1.1, h1.2, h2.1, h2.2⟩, ⟨t1, t3⟩, h5, ?_, ?_⟩
  · rw [hX.1.fau]; exact hX.2.2.2.2.1.2
  · rw [hX.1.bro]; exact hX.2.2.2.2.1.1
theorem kr_W.to (h : kr_W s t B m fi o k len) (hB : B ≤ B') (hs : ∀ a, 1 ≤ a → a < 128 → (a < 21 ∨ 41 ≤ a) → s' a = s a) (h129 : t' 129 = t 129) (h130 : t' 130 = t 130) (h132 : t' 132 = t 132) (h3 : t' 128 3 = t 128 3) (h6 : t' 128 6 = t 128 6) : kr_W s' t' B' m fi o k len := by
  obtain ⟨hR, hfi, hH, t1, t2, t3, t4⟩ := h
  refine ⟨?_, by omega, hH.to hB (fun a q1 q2 => hs a (by omega) (by omega) (by omega)) h3 h130, ?_, ?_, t3, fun i hi => ?_⟩
  · rw [h129]; exact hR.to fun a q1 q2 => hs a (by omega) (by omega) (by omega)
  · rw [hs 123 (by decide) (by decide) (by decide)]; exact t1
  · rw [h6]; exact t2
  · rw [hs 125 (by decide) (by decide) (by decide), h132]; exact t4 i hi
theorem kr_W4 (h : kr_Ws σ B) (v : Int32) : kr_Ws (kn_up σ 128 4 v) (B + 1000) := by
  obtain ⟨m, fi, o, k, len, hW⟩ := h
  exact ⟨m, fi, o, k, len, hW.to (by omega) (fun a q1 q2 _ => kn_up_ne _ _ _ (by omega)) (kn_up_ne _ _ _ (by decide)) (kn_up_ne _ _ _ (by decide)) (kn_up_ne _ _ _ (by decide)) (kn_upk (by decide)) (kn_upk (by decide))⟩
theorem kr_u4 (σ : kn_S) (v : Int32) : kn_up σ 128 4 v 128 4 = v := if_pos ⟨rfl, rfl⟩
theorem kr_ut (τ : kn_T) (a : Nat) (v : Int64) : kn_upT τ a 0 v a 0 = v := if_pos ⟨rfl, rfl⟩
theorem kr_sv129 (hs : ∀ a, 123 ≤ a → s' a = σ a) : kg_saves (kn_up s' 128 4 0) k 129 = σ 129 := by
  rw [kg_saves_ne _ _ (by decide) (by decide), kn_up_ne _ _ _ (by decide), hs 129 (by decide)]
theorem kr_sv4 : kg_saves (kn_up s' 128 4 0) k 128 4 = 0 := by
  unfold kg_saves
  split
  · rw [kn_upk (by decide), kg_cpy_ne _ (by decide), kn_upk (by decide), kg_cpy_ne _ (by decide), kr_u4]
  · rw [kn_upk (by decide), kg_cpy_ne _ (by decide), kr_u4]
/-- both have saved, and both have gone on to the same control -/
theorem kr_fin (hW : kr_W σ σ B m fi o k len) (hs : ∀ a, a < 1 ∨ 21 ≤ a → s' a = kf_keepH σ 41 1 o k a) (h2 : ∀ a, a ≠ 129 → σ2 a = kg_saves (kn_up s' 128 4 0) k a) (hR : kr_R s' 1 (σ2 129) m' fi') (hfi : fi' ≤ B') (hB : B ≤ B') : σ2 128 4 = 0 ∧ kr_Ws σ2 B' := by
  obtain ⟨hR0, hfi0, hH0, t1, t2, t3, t4⟩ := hW
  have hlo : ∀ a, a < 128 → σ2 a = s' a := fun a ha => by rw [h2 a (by omega), kg_saves_ne _ _ (by omega) (by omega), kn_up_ne _ _ _ (by omega)]
  have hhi : ∀ a, 123 ≤ a → s' a = σ a := fun a ha => by rw [hs a (by omega), kf_keepH_ne _ _ _ (by omega)]
  have e129 : kn_up s' 128 4 0 129 = σ 129 := by rw [kn_up_ne _ _ _ (by decide), hhi 129 (by decide)]
  have e130 : kn_up s' 128 4 0 130 = σ 130 := by rw [kn_up_ne _ _ _ (by decide), hhi 130 (by decide)]
  have e3 : kn_up s' 128 4 0 128 3 = σ 128 3 := by rw [kn_upk (by decide), hhi 128 (by decide)]
  have hH : kr_H σ (kn_up s' 128 4 0) B o k := hH0.to (Nat.le_refl _) (fun _ _ _ => rfl) e3 e130
  have hS := kr_save hH (by rw [e129]; exact hR0) hfi0
  refine ⟨by rw [h2 128 (by decide)]; exact kr_sv4, m', fi', _, _, len, hR.to fun a q1 q2 => hlo a (by omega), hfi, hS.to hB (fun a q1 q2 => ?_) (by rw [h2 128 (by decide)]) (h2 130 (by decide)), ?_, ?_, t3, fun i hi => ?_⟩
  · rw [hlo a (by omega), hs a (by omega)]
  · rw [hlo 123 (by decide), hhi 123 (by decide)]; exact t1
  · rw [h2 128 (by decide), kg_saves_6, kn_upk (by decide), hhi 128 (by decide)]; exact t2
  · rw [hlo 125 (by decide), hhi 125 (by decide), h2 132 (by decide), kg_saves_ne _ _ (by decide) (by decide), kn_up_ne _ _ _ (by decide), hhi 132 (by decide)]
    exact t4 i hi
theorem kr_RK (hW : kr_W σ σ B m fi o k len) (h129 : t 129 = σ 129) : kr_R (kf_keepH σ 41 1 o k) 1 (t 129) m fi := by
  rw [h129]
  exact hW.1.to fun a q1 q2 => kf_keepH_ne _ _ _ (by omega)
theorem kr_sv3 (hW : kr_W σ σ B m fi o k len) (hs : ∀ a, 123 ≤ a → s' a = σ a) : s' 128 3 = nI k ∧ k ≤ 4 := by
  rw [hs 128 (by decide)]
  exact ⟨hW.2.2.1.1.2.2, hW.2.2.1.1.2.1.2⟩
end KRW
/-- the reference's call behind the class's: it answers the same, and the two stay the same -/
def kr_mo (X : kn_X) (z : kn_Z) (M : kn_M) (args : List Value) (B : Nat) (κ v : Int32) (σ1 : kn_S) (τ1 : kn_T) : Prop :=
  ∀ Q2 : kn_Q, (∀ (b : Int32) (σ2 : kn_S), σ2 128 4 = κ → (κ = 0 → b = v) → kr_Ws σ2 B → Q2 (.inl (some (.int b))) σ2 τ1 z) → kn_Ev X M args σ1 τ1 z 0 0 Q2
/-- the law's call of the class, with the reference's behind it -/
def kr_cs (X : kn_X) (z : kn_Z) (σ : kn_S) (τ : kn_T) (M : kn_M) (args : List Value) (M2 : kn_M) (args2 : List Value) (B : Nat) : Prop :=
  ∀ Q : kn_Q, (∀ (κ v : Int32) (σ1 : kn_S) (τ1 : kn_T), (κ = 0 → τ1 133 0 = v.toInt64) → kr_mo X z M2 args2 B κ v σ1 τ1 → Q (.inl (some (.int κ))) σ1 τ1 z) → kn_Ev X M args σ τ z 2 12 Q
section KRCS
variable {X : kn_X} {z : kn_Z} {σ : kn_S} {τ : kn_T} {B : Nat}
theorem cs_begin (x : Int32) (hV : kr_V z) (W : kr_Ws σ B) : kr_cs X z σ τ ML_begin [.ref 0, .int x, .ref 133] MX7_begin [.ref 128, .int x] (B + 1000) := by
  intro Q hQ
  obtain ⟨m, fi, o, k, len, hW⟩ := W
  have hI := hW.I
  refine m_L_begin hV.1 hV.2.2.1 (fun Q6 h6 => m_X6_begin hV.1 hI (fun hx => h6 _ _ _ _ ⟨rfl, hQ 0 _ _ _ (fun _ => kr_ut τ 133 _) ?_⟩) (fun hx => h6 _ _ _ _ ⟨rfl, 1, List.mem_cons_self, hQ 1 0 _ _ (fun q => absurd q (by decide)) ?_⟩))
  · intro Q2 h2
    have hs : ∀ a, a < 1 ∨ 21 ≤ a → kf_restart (kf_keepH σ 41 1 o k) 1 x a = kf_keepH σ 41 1 o k a := fun a ha => kf_restart_ne _ _ ha
    have hhi : ∀ a, 123 ≤ a → kf_restart (kf_keepH σ 41 1 o k) 1 x a = σ a := fun a ha => by rw [hs a (by omega), kf_keepH_ne _ _ _ (by omega)]
    obtain ⟨s1, s2⟩ := kr_sv3 hW hhi
    have e129 := kr_sv129 (k := k) hhi
    have hK := kr_RK hW e129
    have hw := kr_within hx
    have e2 : (2 : Int32).toInt = 2 := by decide
    have e8 : (8 : Int32).toInt = 8 := by decide
    obtain ⟨M, hM, rfl⟩ := kr_le_of (N := 8) (by decide) (show 0 ≤ x.toInt by omega) (by omega)
    rw [nI_toInt (by omega)] at hw
    have hR := kr_restart (s := kf_keepH σ 41 1 o k) (b := 1) (t := kg_saves (kn_up (kf_restart (kf_keepH σ 41 1 o k) 1 (nI M)) 128 4 0) k) (M := M) ⟨by omega, hM⟩ (fun c hc => ⟨hK.1.1.set hc, hK.1.2.2.2.2.2.1.2.2 c hc⟩) hK.1.2.2.2.2.2.1.1 ⟨hK.1.1.see, hK.1.2.2.2.2.2.1.2.1⟩ ⟨hK.1.1.bro, hK.1.2.2.2.2.1.1⟩
    refine m_X7_begin hV.2.1 s1 s2 (fun _ => ?_) (fun h => absurd h hx)
    obtain ⟨f1, f2⟩ := kr_fin (B' := B + 1000) hW hs (fun a ha => kg_begins_ne _ _ ha) hR (by omega) (by omega)
    refine h2 _ _ f1 (fun _ => ?_) f2
    rw [e129, hW.1.1.1.fir]
  · intro Q2 h2
    exact m_X7_begin hV.2.1 hW.2.2.1.1.2.2 hW.2.2.1.1.2.1.2 (fun h => absurd hx h) (fun _ => h2 _ _ (kr_u4 _ _) (fun q => absurd q (by decide)) (kr_W4 ⟨m, fi, o, k, len, hW⟩ 1))
theorem kr_isSet (x y : Int32) : kf_isSetting x y = kg_isSet x y := by
  have w01 : kf_within y 0 100 = if kf_within y 0 100 = 0 then 0 else 1 := by
    unfold kf_within
    split
    · rfl
    split
    · rfl
    · rfl
  by_cases h0 : x < 0
  · have e : ∀ j : Nat, j < 8 → ¬ x = nI j := fun j hj q => nI_pos (n := j) (by omega) (q ▸ h0)
    unfold kf_isSetting kg_isSet
    rw [if_pos h0, if_neg (show ¬ x = 0 from e 0 (by decide)), if_neg (show ¬ x = 1 from e 1 (by decide)), if_neg (show ¬ x = 2 from e 2 (by decide)), if_neg (show ¬ x = 3 from e 3 (by decide)), if_neg (show ¬ x = 4 from e 4 (by decide)), if_neg (show ¬ x = 5 from e 5 (by decide)), if_neg (show ¬ x = 6 from e 6 (by decide)), if_neg (show ¬ x = 7 from e 7 (by decide))]
  by_cases h8 : 8 ≤ x
  · have e : ∀ j : Nat, j < 8 → ¬ x = nI j := fun j hj q => nI_ge (a := j) (b := 8) hj (by decide) (q ▸ h8)
    unfold kf_isSetting kg_isSet
    rw [if_neg h0, if_pos h8, if_neg (show ¬ x = 0 from e 0 (by decide)), if_neg (show ¬ x = 1 from e 1 (by decide)), if_neg (show ¬ x = 2 from e 2 (by decide)), if_neg (show ¬ x = 3 from e 3 (by decide)), if_neg (show ¬ x = 4 from e 4 (by decide)), if_neg (show ¬ x = 5 from e 5 (by decide)), if_neg (show ¬ x = 6 from e 6 (by decide)), if_neg (show ¬ x = 7 from e 7 (by decide))]
  obtain ⟨j, hj, rfl⟩ := nI_of h0
  have hj8 : j < 8 := by
    rcases Nat.lt_or_ge j 8 with q | q
    · exact q
    · exact absurd (show (8 : Int32) ≤ nI j from nI_le q hj) h8
  have : j = 0 ∨ j = 1 ∨ j = 2 ∨ j = 3 ∨ j = 4 ∨ j = 5 ∨ j = 6 ∨ j = 7 := by omega
  rcases this with rfl | rfl | rfl | rfl | rfl | rfl | rfl | rfl
  · rfl
  · rfl
  · rfl
  · rfl
  · rfl
  · rfl
  · rfl
  · exact w01
theorem kr_setLe {j : Nat} {y : Int32} (hj : j < 8) (h : ¬ kf_isSetting (nI j) y = 0) : kr_le y 1000 ∧ (j = 0 → kr_le y 128) := by
  unfold kf_isSetting at h
  rw [if_neg (nI_pos (by omega)), if_neg (show ¬ (8 : Int32) ≤ nI j from nI_ge (a := j) (b := 8) hj (by decide)), nI_clamp (by omega)] at h
  have hw := kr_within h
  have e : 0 ≤ (kn_least j).toInt ∧ (kn_most j).toInt ≤ 1000 ∧ (j = 0 → (kn_most j).toInt ≤ 128) := by
    have : j = 0 ∨ j = 1 ∨ j = 2 ∨ j = 3 ∨ j = 4 ∨ j = 5 ∨ j = 6 ∨ j = 7 := by omega
    rcases this with rfl | rfl | rfl | rfl | rfl | rfl | rfl | rfl <;> decide
  exact ⟨kr_le_of (by decide) (by omega) (by omega), fun q => kr_le_of (by decide) (by omega) (by have := e.2.2 q; omega)⟩
theorem cs_set (x y : Int32) (hV : kr_V z) (W : kr_Ws σ B) : kr_cs X z σ τ ML_set [.ref 0, .int x, .int y, .ref 133] MX7_set [.ref 128, .int x, .int y] (B + 1000) := by
  intro Q hQ
  obtain ⟨m, fi, o, k, len, hW⟩ := W
  have hI := hW.I
  refine m_L_set hV.1 hV.2.2.1 (fun Q6 h6 => m_X6_set hV.1 hI (fun hx => h6 _ _ _ _ ⟨rfl, hQ 0 _ _ _ (fun _ => kr_ut τ 133 _) ?_⟩) (fun hx => h6 _ _ _ _ ⟨rfl, 1, List.mem_cons_self, hQ 1 0 _ _ (fun q => absurd q (by decide)) ?_⟩))
  · intro Q2 h2
    have hs : ∀ a, a < 1 ∨ 21 ≤ a → kf_put (kf_keepH σ 41 1 o k) 3 8 x y a = kf_keepH σ 41 1 o k a := fun a ha => kf_put_ne _ _ _ _ (by omega)
    have hhi : ∀ a, 123 ≤ a → kf_put (kf_keepH σ 41 1 o k) 3 8 x y a = σ a := fun a ha => by rw [hs a (by omega), kf_keepH_ne _ _ _ (by omega)]
    obtain ⟨s1, s2⟩ := kr_sv3 hW hhi
    have e129 := kr_sv129 (k := k) hhi
    have hK := kr_RK hW e129
    refine m_X7_set hV.2.1 s1 s2 (fun j hj hj8 _ => ?_) (fun h => absurd (by rw [kr_isSet]; exact h) hx)
    subst hj
    obtain ⟨l1, l2⟩ := kr_setLe hj8 hx
    have hX := hK.1.set (v := y) hj8 l1 l2
    have hR : kr_R (kf_put (kf_keepH σ 41 1 o k) 3 8 (nI j) y) 1 (kn_up (kg_saves (kn_up (kf_put (kf_keepH σ 41 1 o k) 3 8 (nI j) y) 128 4 0) k) 129 j y 129) m fi := by
      refine ⟨?_, ?_⟩
      · rw [kf_put_nI _ _ (by decide) hj8]; rw [kf_put_nI _ _ (by decide) hj8] at hX; exact hX
      · rw [kf_put_ne _ _ _ _ (by decide)]; exact hK.2
    obtain ⟨f1, f2⟩ := kr_fin (B' := B + 1000) hW hs (fun a ha => kn_up_ne _ _ _ ha) hR (by have := hW.2.1; omega) (by omega)
    refine h2 _ _ f1 (fun _ => ?_) f2
    rw [e129, kf_at_nI (by decide) hj8]
    exact (hW.1.1.1.set hj8).symm
  · intro Q2 h2
    exact m_X7_set hV.2.1 hW.2.2.1.1.2.2 hW.2.2.1.1.2.1.2 (fun j _ _ h => absurd (by rw [← kr_isSet]; exact hx) h) (fun _ => h2 _ _ (kr_u4 _ _) (fun q => absurd q (by decide)) (kr_W4 ⟨m, fi, o, k, len, hW⟩ 1))
end KRCS
