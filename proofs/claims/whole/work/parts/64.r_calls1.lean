-- teach, breakSensor, seed, fire, drive
def kr_m1 (X : kn_X) (z : kn_Z) (M : kn_M) (args : List Value) (B : Nat) (v : Int32) (σ1 : kn_S) (τ1 : kn_T) : Prop :=
  ∀ Q2 : kn_Q, (∀ σ2 : kn_S, kr_Ws σ2 B → Q2 (.inl (some (.int v))) σ2 τ1 z) → kn_Ev X M args σ1 τ1 z 0 0 Q2
/-- a call that throws nothing: the class's, and the reference's behind it -/
def kr_cn (X : kn_X) (z : kn_Z) (σ : kn_S) (τ : kn_T) (M : kn_M) (args : List Value) (M2 : kn_M) (args2 : List Value) (B : Nat) : Prop :=
  ∀ Q : kn_Q, (∀ (v : Int32) (σ1 : kn_S), kr_m1 X z M2 args2 B v σ1 τ → Q (.inl (some (.int v))) σ1 τ z) → kn_Ev X M args σ τ z 0 0 Q
theorem kr_and0 {a b : Int32} (h : kf_and a b = 0) : a = 0 ∨ b = 0 := by
  unfold kf_and at h
  by_cases h1 : a = 0
  · exact Or.inl h1
  rw [if_neg h1] at h
  by_cases h2 : b = 0
  · exact Or.inr h2
  rw [if_neg h2] at h
  exact absurd h (by decide)
/-- a cell for every call: the one of the point, or none at all -/
theorem kr_cl (x y : Int32) : ∃ cl : Nat, ¬ kf_isOp x y = 0 → kf_cell x y = nI cl ∧ cl < 24 := by
  by_cases h : kf_isOp x y = 0
  · exact ⟨0, fun q => absurd h q⟩
  · obtain ⟨cl, h1, h2⟩ := kr_cell h
    exact ⟨cl, fun _ => ⟨h1, h2⟩⟩
theorem kr_isCell {x y : Int32} (h : ¬ kf_isCell x y = 0) : ∃ r c : Nat, x = nI r ∧ y = nI c ∧ r ≤ 5 ∧ c ≤ 3 := by
  obtain ⟨h1, h2⟩ := kr_and h
  obtain ⟨r, hr, e1⟩ := kf_within_nI (n := 5) rfl (by decide) h1
  obtain ⟨c, hc, e2⟩ := kf_within_nI (n := 3) rfl (by decide) h2
  exact ⟨r, c, e1, e2, hr, hc⟩
theorem kr_cellIn {r j : Nat} (h1 : r ≤ 5) (h2 : j ≤ 3) : ¬ kf_isCell (nI r) (nI j) = 0 := by
  have q1 : r = 0 ∨ r = 1 ∨ r = 2 ∨ r = 3 ∨ r = 4 ∨ r = 5 := by omega
  have q2 : j = 0 ∨ j = 1 ∨ j = 2 ∨ j = 3 := by omega
  rcases q1 with rfl | rfl | rfl | rfl | rfl | rfl <;> rcases q2 with rfl | rfl | rfl | rfl <;> decide
section KRCS
variable {X : kn_X} {z : kn_Z} {σ : kn_S} {τ : kn_T} {B : Nat}
theorem cs_teach (x y w : Int32) (hV : kr_V z) (W : kr_Ws σ B) : kr_cs X z σ τ ML_teach [.ref 0, .int x, .int y, .int w, .ref 133] MX7_teach [.ref 128, .int x, .int y, .int w] (B + 1000) := by
  intro Q hQ
  obtain ⟨m, fi, o, k, len, hW⟩ := W
  have hI := hW.I
  refine m_L_teach hV.1 hV.2.2.1 (fun Q6 h6 => m_X6_teach hV.1 hI (fun hx hw => h6 _ _ _ _ ⟨rfl, hQ 0 _ _ _ (fun _ => kr_ut τ 133 _) ?_⟩) (fun hx => h6 _ _ _ _ ⟨rfl, 1, List.mem_cons_self, hQ 1 0 _ _ (fun q => absurd q (by decide)) ?_⟩) (fun hx hw => h6 _ _ _ _ ⟨rfl, 2, List.mem_cons_of_mem _ List.mem_cons_self, hQ 2 0 _ _ (fun q => absurd q (by decide)) ?_⟩))
  · intro Q2 h2
    have hs : ∀ a, a < 1 ∨ 21 ≤ a → kf_put (kf_keepH σ 41 1 o k) 13 24 (4 * x + y) w a = kf_keepH σ 41 1 o k a := fun a ha => kf_put_ne _ _ _ _ (by omega)
    have hhi : ∀ a, 123 ≤ a → kf_put (kf_keepH σ 41 1 o k) 13 24 (4 * x + y) w a = σ a := fun a ha => by rw [hs a (by omega), kf_keepH_ne _ _ _ (by omega)]
    obtain ⟨s1, s2⟩ := kr_sv3 hW hhi
    have e129 := kr_sv129 (k := k) hhi
    have hK := kr_RK hW e129
    refine m_X7_teach hV.2.1 s1 s2 (fun r j hr hj hr5 hj3 _ => ?_) (fun h => absurd h hx) (fun _ h => absurd h hw)
    have hxy : 4 * x + y = nI (4 * r + j) := by rw [hr, hj, show (4 : Int32) = nI 4 from rfl, pk_mul, nI_add]
    have hc : 4 * r + j < 24 := by omega
    obtain ⟨w9, hw9, hw8⟩ := kf_within_nI (n := 100) rfl (by decide) hw
    have hX := hK.1.lea (v := w) hc ⟨w9, hw9, hw8⟩
    have hR : kr_R (kf_put (kf_keepH σ 41 1 o k) 13 24 (4 * x + y) w) 1 (kn_up (kg_saves (kn_up (kf_put (kf_keepH σ 41 1 o k) 13 24 (4 * x + y) w) 128 4 0) k) 129 (49 + 4 * r + j) w 129) m fi := by
      refine ⟨?_, ?_⟩
      · rw [hxy, kf_put_nI _ _ (by decide) hc, Nat.add_assoc 49]
        rw [hxy, kf_put_nI _ _ (by decide) hc] at hX
        exact hX
      · rw [kf_put_ne _ _ _ _ (by decide)]; exact hK.2
    obtain ⟨f1, f2⟩ := kr_fin (B' := B + 1000) hW hs (fun a ha => kn_up_ne _ _ _ ha) hR (by have := hW.2.1; omega) (by omega)
    refine h2 _ _ f1 (fun _ => ?_) f2
    rw [e129, hxy, kf_at_nI (by decide) hc, Nat.add_assoc 49]
    exact (hW.1.1.1.lea hc).symm
  · intro Q2 h2
    exact m_X7_teach hV.2.1 hW.2.2.1.1.2.2 hW.2.2.1.1.2.1.2 (fun r j hr hj hr5 hj3 _ => absurd (by rw [hr, hj] at hx; exact hx) (kr_cellIn hr5 hj3)) (fun _ => h2 _ _ (kr_u4 _ _) (fun q => absurd q (by decide)) (kr_W4 ⟨m, fi, o, k, len, hW⟩ 1)) (fun h _ => absurd hx h)
  · intro Q2 h2
    exact m_X7_teach hV.2.1 hW.2.2.1.1.2.2 hW.2.2.1.1.2.1.2 (fun _ _ _ _ _ _ h => absurd hw h) (fun h => absurd h hx) (fun _ _ => h2 _ _ (kr_u4 _ _) (fun q => absurd q (by decide)) (kr_W4 ⟨m, fi, o, k, len, hW⟩ 2))
theorem cs_seed (x : Int32) (hV : kr_V z) (W : kr_Ws σ B) : kr_cs X z σ τ ML_seed [.ref 0, .int x, .ref 133] MX7_seed [.ref 128, .int x] (B + 1000) := by
  intro Q hQ
  obtain ⟨m, fi, o, k, len, hW⟩ := W
  have hI := hW.I
  refine m_L_seed hV.1 hV.2.2.1 (fun Q6 h6 => m_X6_seed hV.1 hI (fun hx => h6 _ _ _ _ ⟨rfl, hQ 0 _ _ _ (fun _ => kr_ut τ 133 _) ?_⟩) (fun hx => h6 _ _ _ _ ⟨rfl, 1, List.mem_cons_self, hQ 1 0 _ _ (fun q => absurd q (by decide)) ?_⟩))
  · intro Q2 h2
    have hs : ∀ a, a < 1 ∨ 21 ≤ a → kn_up (kf_keepH σ 41 1 o k) 1 15 x a = kf_keepH σ 41 1 o k a := fun a ha => kn_up_ne _ _ _ (by omega)
    have hhi : ∀ a, 123 ≤ a → kn_up (kf_keepH σ 41 1 o k) 1 15 x a = σ a := fun a ha => by rw [hs a (by omega), kf_keepH_ne _ _ _ (by omega)]
    obtain ⟨s1, s2⟩ := kr_sv3 hW hhi
    have e129 := kr_sv129 (k := k) hhi
    have hK := kr_RK hW e129
    refine m_X7_seed hV.2.1 s1 s2 (fun _ => ?_) (fun h => absurd h hx)
    obtain ⟨x9, hx9, hx8⟩ := kf_within_nI (n := 999999) rfl (by decide) hx
    have hX := hK.1.see (v := x) ⟨x9, by omega, hx8⟩
    have hR : kr_R (kn_up (kf_keepH σ 41 1 o k) 1 15 x) 1 (kn_up (kg_saves (kn_up (kn_up (kf_keepH σ 41 1 o k) 1 15 x) 128 4 0) k) 129 10 x 129) m fi := ⟨hX, by rw [kn_upk (by decide)]; exact hK.2⟩
    obtain ⟨f1, f2⟩ := kr_fin (B' := B + 1000) hW hs (fun a ha => kn_up_ne _ _ _ ha) hR (by have := hW.2.1; omega) (by omega)
    refine h2 _ _ f1 (fun _ => ?_) f2
    rw [e129, hW.1.1.1.see]
  · intro Q2 h2
    exact m_X7_seed hV.2.1 hW.2.2.1.1.2.2 hW.2.2.1.1.2.1.2 (fun h => absurd hx h) (fun _ => h2 _ _ (kr_u4 _ _) (fun q => absurd q (by decide)) (kr_W4 ⟨m, fi, o, k, len, hW⟩ 1))
theorem cn_breakSensor {x : Int32} (hx : kn_01 x) (hV : kr_V z) (W : kr_Ws σ B) : kr_cn X z σ τ MX6_breakSensor [.ref 0, .int x] MX7_breakSensor [.ref 128, .int x] (B + 1000) := by
  intro Q hQ
  obtain ⟨m, fi, o, k, len, hW⟩ := W
  have hI := hW.I
  refine m_X6_breakSensor hV.1 hI hx (hQ _ _ ?_)
  intro Q2 h2
  have hs : ∀ a, a < 1 ∨ 21 ≤ a → kn_up (kf_keepH σ 41 1 o k) 1 16 x a = kf_keepH σ 41 1 o k a := fun a ha => kn_up_ne _ _ _ (by omega)
  have hhi : ∀ a, 123 ≤ a → kn_up (kf_keepH σ 41 1 o k) 1 16 x a = σ a := fun a ha => by rw [hs a (by omega), kf_keepH_ne _ _ _ (by omega)]
  obtain ⟨s1, s2⟩ := kr_sv3 hW hhi
  have e129 := kr_sv129 (k := k) hhi
  have hK := kr_RK hW e129
  refine m_X7_breakSensor hV.2.1 s1 s2 ?_
  have ex : (if x = 0 then 0 else 1 : Int32) = x := by rcases hx with rfl | rfl <;> rfl
  have hX := hK.1.bro (v := x) hx
  have hR : kr_R (kn_up (kf_keepH σ 41 1 o k) 1 16 x) 1 (kn_up (kg_saves (kn_up (kn_up (kf_keepH σ 41 1 o k) 1 16 x) 128 4 0) k) 129 11 x 129) m fi := ⟨hX, by rw [kn_upk (by decide)]; exact hK.2⟩
  obtain ⟨f1, f2⟩ := kr_fin (B' := B + 1000) hW hs (fun a ha => kn_up_ne _ _ _ ha) hR (by have := hW.2.1; omega) (by omega)
  rw [ex, e129]
  have eb : (if σ 129 11 = 1 then 1 else 0 : Int32) = σ 1 16 := by
    rw [hW.1.1.1.bro]
    rcases hW.1.1.2.2.2.2.1.1 with q | q <;> rw [q] <;> rfl
  rw [eb]
  exact h2 _ f2
theorem cs_fire (x y w : Int32) (hV : kr_V z) (W : kr_Ws σ B) (hB : B + 1000 < 2 ^ 31) : kr_cs X z σ τ ML_fire [.ref 0, .int x, .int y, .int w, .ref 133] MX7_fire [.ref 128, .int x, .int y, .int w] (B + 1000) := by
  intro Q hQ
  obtain ⟨m, fi, o, k, len, hW⟩ := W
  have hI := hW.I
  have hfi := hW.2.1
  obtain ⟨cl, hcl⟩ := kr_cl x y
  refine m_L_fire hV.1 hV.2.2.1 (fun Q6 h6 => m_X6_fire hV.1 hI (fun hx => h6 _ _ _ _ ⟨rfl, hQ 0 _ _ _ (fun _ => kr_ut τ 133 _) ?_⟩) (fun hx => h6 _ _ _ _ ⟨rfl, 1, List.mem_cons_self, hQ 1 0 _ _ (fun q => absurd q (by decide)) ?_⟩))
  · intro Q2 h2
    obtain ⟨x1, x2⟩ := kr_and hx
    obtain ⟨c1, c2⟩ := hcl x1
    have hs : ∀ a, a < 1 ∨ 21 ≤ a → kf_treat (kf_keepH σ 41 1 o k) 1 m x y w a = kf_keepH σ 41 1 o k a := fun a ha => kf_treat_ne _ _ _ _ _ (by omega)
    have hhi : ∀ a, 123 ≤ a → kf_treat (kf_keepH σ 41 1 o k) 1 m x y w a = σ a := fun a ha => by rw [hs a (by omega), kf_keepH_ne _ _ _ (by omega)]
    obtain ⟨s1, s2⟩ := kr_sv3 hW hhi
    have e129 := kr_sv129 (k := k) hhi
    have hK := kr_RK hW e129
    obtain ⟨w9, hw9, hw8⟩ := kf_within_nI (n := 20000) rfl (by decide) x2
    obtain ⟨hR, hto, htp⟩ := kr_treat (x := x) (y := y) hK ⟨w9, hw9, hw8⟩ c1 c2 (by omega)
    refine m_X7_fire hV.2.1 s1 s2 hcl (fun _ _ => htp) (fun _ _ => ?_) (fun h => absurd h (by rintro (h | h); exact x1 h; exact x2 h))
    obtain ⟨f1, f2⟩ := kr_fin (B' := B + 1000) hW hs (fun a ha => kg_tr_ne _ _ _ _ ha) hR (by omega) (by omega)
    exact h2 _ _ f1 (fun _ => hto.symm) f2
  · intro Q2 h2
    have hn := kr_and0 hx
    exact m_X7_fire (m := m) hV.2.1 hW.2.2.1.1.2.2 hW.2.2.1.1.2.1.2 hcl (fun a b => by rcases hn with h | h; exact absurd h a; exact absurd h b) (fun a b => by rcases hn with h | h; exact absurd h a; exact absurd h b) (fun _ => h2 _ _ (kr_u4 _ _) (fun q => absurd q (by decide)) (kr_W4 ⟨m, fi, o, k, len, hW⟩ 1))
theorem kf_drv_ne (m : Nat) (x y w : Int32) (s : kn_S) {a : Nat} (h : a < 1 ∨ 21 ≤ a) : ∀ j, (kf_drv 1 m x y w s j).2 a = s a
  | 0 => rfl
  | j + 1 => by
    show kf_mod (kf_drv 1 m x y w s j).2 1 m x y w a = s a
    rw [kf_mod_ne _ _ _ _ _ (by omega), kf_drv_ne m x y w s h j]
theorem kg_dr_ne (t : kn_S) (m cl : Nat) (x y w : Int32) {a : Nat} (h : a ≠ 129) : ∀ j, (kg_dr t m cl x y w j).2 a = t a
  | 0 => rfl
  | j + 1 => by
    show kg_fs (kg_dr t m cl x y w j).2 m cl x y w a = t a
    rw [kg_fs_ne _ _ _ _ _ _ h, kg_dr_ne t m cl x y w h j]
theorem kr_drvN {x y w v : Int32} {vv : Nat} (a : ¬ kf_isOp x y = 0) (b : ¬ kf_within w 80 110 = 0) (e1 : v = nI vv) (e2 : vv ≤ 1000) : ¬ (kf_isOp x y = 0 ∨ kf_within w 80 110 = 0 ∨ kf_within v 0 1000 = 0) := by
  rintro (h | h | h)
  · exact a h
  · exact b h
  · unfold kf_within at h
    rw [e1, if_neg (nI_pos (by omega)), if_neg (show ¬ (1000 : Int32) < nI vv from nI_nlt (a := 1000) e2 (by decide))] at h
    exact absurd h (by decide)
theorem cs_drive (x y w v : Int32) (hV : kr_V z) (W : kr_Ws σ B) (hB : B + 1000 < 2 ^ 31) : kr_cs X z σ τ ML_drive [.ref 0, .int x, .int y, .int w, .int v, .ref 133] MX7_drive [.ref 128, .int x, .int y, .int w, .int v] (B + 1000) := by
  intro Q hQ
  obtain ⟨m, fi, o, k, len, hW⟩ := W
  have hI := hW.I
  have hfi := hW.2.1
  obtain ⟨cl, hcl⟩ := kr_cl x y
  refine m_L_drive hV.1 hV.2.2.1 (fun Q6 h6 => m_X6_drive hV.1 hI (fun j hj hj9 hx => h6 _ _ _ _ ⟨rfl, hQ 0 _ _ _ (fun _ => kr_ut τ 133 _) ?_⟩) (fun hx => h6 _ _ _ _ ⟨rfl, 1, List.mem_cons_self, hQ 1 0 _ _ (fun q => absurd q (by decide)) ?_⟩))
  · intro Q2 h2
    obtain ⟨x1, x2⟩ := kr_and hx
    obtain ⟨x3, x4⟩ := kr_and x1
    obtain ⟨c1, c2⟩ := hcl x3
    have hs : ∀ a, a < 1 ∨ 21 ≤ a → (kf_drv 1 m x y w (kf_keepH σ 41 1 o k) j).2 a = kf_keepH σ 41 1 o k a := fun a ha => kf_drv_ne m x y w _ ha j
    have hhi : ∀ a, 123 ≤ a → (kf_drv 1 m x y w (kf_keepH σ 41 1 o k) j).2 a = σ a := fun a ha => by rw [hs a (by omega), kf_keepH_ne _ _ _ (by omega)]
    obtain ⟨s1, s2⟩ := kr_sv3 hW hhi
    have e129 := kr_sv129 (k := k) hhi
    have hK := kr_RK hW e129
    obtain ⟨hR, hto, htp⟩ := kr_drv hK ⟨x3, x4, c1, c2⟩ j (by omega)
    have hvv : ∀ vv : Nat, v = nI vv → vv ≤ 1000 → vv = j := fun vv e1 e2 => (nI_eq (by omega) (by omega)).mp (e1.symm.trans hj)
    refine m_X7_drive2 (cl := cl) (m := m) hV.2.1 s1 s2 hcl (fun vv e1 e2 _ _ i hi => htp i (by rw [hvv vv e1 e2] at hi; exact hi)) (fun vv e1 e2 _ _ => ?_) (fun h => absurd h (by rintro (h | h | h); exact x3 h; exact x4 h; exact x2 h))
    obtain rfl := hvv vv e1 e2
    obtain ⟨f1, f2⟩ := kr_fin (B' := B + 1000) hW hs (fun a ha => kg_dr_ne _ _ _ _ _ _ ha _) hR (by omega) (by omega)
    exact h2 _ _ f1 (fun _ => hto.symm) f2
  · intro Q2 h2
    have hn : kf_isOp x y = 0 ∨ kf_within w 80 110 = 0 ∨ kf_within v 0 1000 = 0 := by
      rcases kr_and0 hx with h | h
      · rcases kr_and0 h with h | h
        · exact Or.inl h
        · exact Or.inr (Or.inl h)
      · exact Or.inr (Or.inr h)
    refine m_X7_drive2 (m := m) hV.2.1 hW.2.2.1.1.2.2 hW.2.2.1.1.2.1.2 hcl (fun vv e1 e2 a b => ?_) (fun vv e1 e2 a b => ?_) (fun _ => h2 _ _ (kr_u4 _ _) (fun q => absurd q (by decide)) (kr_W4 ⟨m, fi, o, k, len, hW⟩ 1))
    · exact absurd hn (kr_drvN a b e1 e2)
    · exact absurd hn (kr_drvN a b e1 e2)
end KRCS
