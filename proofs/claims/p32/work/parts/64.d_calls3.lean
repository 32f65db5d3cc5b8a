-- what changes the control
theorem kr_setLe {j : Nat} {y : Int32} (hj : j < 8) (h : ¬ kf_isSetting (nI j) y = 0) : ((kn_least j).toInt ≤ y.toInt ∧ y.toInt ≤ (kn_most j).toInt) ∧ kr_le y 1000 ∧ (j = 0 → kr_le y 128) := by
  unfold kf_isSetting at h
  rw [if_neg (nI_pos (by omega)), if_neg (show ¬ (8 : Int32) ≤ nI j from nI_ge (a := j) (b := 8) hj (by decide)), nI_clamp (by omega)] at h
  have hw := kr_within h
  have e : 0 ≤ (kn_least j).toInt ∧ (kn_most j).toInt ≤ 1000 ∧ (j = 0 → (kn_most j).toInt ≤ 128) := by
    have : j = 0 ∨ j = 1 ∨ j = 2 ∨ j = 3 ∨ j = 4 ∨ j = 5 ∨ j = 6 ∨ j = 7 := by omega
    rcases this with rfl | rfl | rfl | rfl | rfl | rfl | rfl | rfl <;> decide
  exact ⟨hw, kr_le_of (by decide) (by omega) (by omega), fun q => kr_le_of (by decide) (by omega) (by have := e.2.2 q; omega)⟩
theorem kw_J.put {g : Nat → Int32} {m F k : Nat} {v : Int32} (h : kw_J g m F) (hm : m ≤ 8) (h0 : kw_J0 (upd g k v) F (kw_ks g m)) (h1 : k ≠ 12 ∧ k ≠ 13 ∧ k ≠ 14 ∧ (k < 41 ∨ 49 ≤ k)) : kw_J (upd g k v) m F := by
  have ek : kw_ks (upd g k v) m = kw_ks g m := kr_sum_c m fun d hd => by rw [show upd g k v (41 + d) = g (41 + d) from if_neg (by omega)]
  refine ⟨by rw [ek]; exact h0, h.2.of (if_neg (by omega)) (if_neg (by omega)) (if_neg (by omega))⟩
section CY
variable {X : kn_X} {z : kn_Z} {σ : kn_S} {τ : kn_T} {B m fi : Nat} {l : List kw_G} {g : Nat → Int32} {Q : kn_Q}
theorem kw_keepR {o k : Nat} (h : kr_R σ 1 g m fi) : kr_R (kf_keepH σ 41 1 o k) 1 (kx g 129) m fi := by
  rw [kx_129]; exact h.to fun a q1 q2 => kf_keepH_ne _ _ _ (by omega)
theorem cw_set {j : Nat} {y : Int32} (hK : kn_isK z) (W : kw_W σ B g m fi l) (hj : j < 8) (hy : ¬ kf_isSetting (nI j) y = 0) (hQ : ∀ σ', kw_W σ' B (upd g j y) m fi (kw_push (g, m, fi) l) → Q (.inl (some (.int (g j)))) σ' τ z) : kn_Ev X ML_set [.ref 0, .int (nI j), .int y] σ τ z 2 12 Q := by
  obtain ⟨⟨hR, hfi, hJ⟩, o, k, len, h4, h5, h6⟩ := W
  have hI := kw_IX hR h4 h5 h6
  refine m_L_set hK (fun Q6 q6 => m_X6_set (c := 1) (n := 6) hK hI (fun hx => q6 _ _ _ _ ⟨rfl, ?_⟩) (fun hx => absurd hx hy))
  show Q (.inl (some (.int (kf_at (σ 3) 8 (nI j))))) (kf_put (kf_keepH σ 41 1 o k) 3 8 (nI j) y) τ z
  have e : kf_at (σ 3) 8 (nI j) = g j := (kf_at_nI (by decide) hj).trans (hR.1.1.set hj)
  rw [e]
  obtain ⟨l0, l1, l2⟩ := kr_setLe hj hy
  have hRK := kw_keepR (o := o) (k := k) hR
  have hX := hRK.1.set (v := y) hj l1 l2
  rw [kn_up_row, kx_129] at hX
  refine hQ _ (kw_fin hR hfi hJ h4 h5 h6 (fun a ha => kf_put_ne _ _ _ _ (by omega)) ⟨?_, ?_⟩ hfi (Nat.le_refl _) (hJ.put hR.1.2.2.1.2.2 (hJ.1.put (by omega) (fun _ => l0) (fun _ _ => absurd hj (by omega)) (fun _ _ => absurd hj (by omega)) (fun _ => absurd hj (by omega))) (by omega)))
  · rw [kf_put_nI _ _ (by decide) hj]; exact hX
  · rw [kf_put_ne _ _ _ _ (by decide)]; exact hRK.2
theorem cw_teach {r j w : Nat} (hK : kn_isK z) (W : kw_W σ B g m fi l) (hr : r ≤ 5) (hj : j ≤ 3) (hw : w ≤ 100) (hQ : ∀ σ', kw_W σ' B (upd g (49 + (4 * r + j)) (nI w)) m fi (kw_push (g, m, fi) l) → Q (.inl (some (.int (g (49 + (4 * r + j)))))) σ' τ z) : kn_Ev X ML_teach [.ref 0, .int (nI r), .int (nI j), .int (nI w)] σ τ z 2 12 Q := by
  obtain ⟨⟨hR, hfi, hJ⟩, o, k, len, h4, h5, h6⟩ := W
  have hI := kw_IX hR h4 h5 h6
  refine m_L_teach hK (fun Q6 q6 => m_X6_teach (c := 0) (n := 0) hK hI (fun _ _ => q6 _ _ _ _ ⟨rfl, ?_⟩) (fun hx => absurd hx (kr_cellIn hr hj)) (fun _ hx => absurd hx (kr_inN (N := 100) hw (by decide))))
  show Q (.inl (some (.int (kf_at (σ 13) 24 (4 * nI r + nI j))))) (kf_put (kf_keepH σ 41 1 o k) 13 24 (4 * nI r + nI j) (nI w)) τ z
  have hc : 4 * r + j < 24 := by omega
  have hxy : 4 * nI r + nI j = nI (4 * r + j) := by rw [show (4 : Int32) = nI 4 from rfl, pk_mul, nI_add]
  have e : kf_at (σ 13) 24 (nI (4 * r + j)) = g (49 + (4 * r + j)) := (kf_at_nI (by decide) hc).trans (hR.1.1.lea hc)
  rw [hxy, e]
  have hRK := kw_keepR (o := o) (k := k) hR
  have hX := hRK.1.lea (v := nI w) hc ⟨w, hw, rfl⟩
  rw [kn_up_row, kx_129] at hX
  refine hQ _ (kw_fin hR hfi hJ h4 h5 h6 (fun a ha => kf_put_ne _ _ _ _ (by omega)) ⟨?_, ?_⟩ hfi (Nat.le_refl _) (hJ.put hR.1.2.2.1.2.2 (hJ.1.free (by omega) (by omega) (by omega) (by omega) (by omega)) (by omega)))
  · rw [kf_put_nI _ _ (by decide) hc]; exact hX
  · rw [kf_put_ne _ _ _ _ (by decide)]; exact hRK.2
theorem cw_break {x : Int32} (hK : kn_isK z) (W : kw_W σ B g m fi l) (hx : kn_01 x) (hQ : ∀ σ', kw_W σ' B (upd g 11 x) m fi (kw_push (g, m, fi) l) → Q (.inl (some (.int (g 11)))) σ' τ z) : kn_Ev X MX6_breakSensor [.ref 0, .int x] σ τ z 0 0 Q := by
  obtain ⟨⟨hR, hfi, hJ⟩, o, k, len, h4, h5, h6⟩ := W
  have hI := kw_IX hR h4 h5 h6
  refine m_X6_breakSensor hK hI hx ?_
  rw [show σ 1 16 = g 11 from hR.1.1.bro]
  have hRK := kw_keepR (o := o) (k := k) hR
  have hX := hRK.1.bro (v := x) hx
  rw [kn_up_row, kx_129] at hX
  exact hQ _ (kw_fin hR hfi hJ h4 h5 h6 (fun a ha => kn_up_ne _ _ _ (by omega)) ⟨hX, by rw [kn_upk (by decide)]; exact hRK.2⟩ hfi (Nat.le_refl _) (hJ.put hR.1.2.2.1.2.2 (hJ.1.free (by decide) (by decide) (by decide) (by omega) (by omega)) (by omega)))
theorem cw_seed {x : Nat} (hK : kn_isK z) (W : kw_W σ B g m fi l) (hx : x ≤ 999999) (hQ : ∀ σ', kw_W σ' B (upd g 10 (nI x)) m fi (kw_push (g, m, fi) l) → Q (.inl (some (.int (g 10)))) σ' τ z) : kn_Ev X ML_seed [.ref 0, .int (nI x)] σ τ z 2 12 Q := by
  obtain ⟨⟨hR, hfi, hJ⟩, o, k, len, h4, h5, h6⟩ := W
  have hI := kw_IX hR h4 h5 h6
  refine m_L_seed hK (fun Q6 q6 => m_X6_seed (c := 1) (n := 6) hK hI (fun _ => q6 _ _ _ _ ⟨rfl, ?_⟩) (fun h => absurd h (kr_inN (N := 999999) hx (by decide))))
  show Q (.inl (some (.int (σ 1 15)))) (kn_up (kf_keepH σ 41 1 o k) 1 15 (nI x)) τ z
  rw [show σ 1 15 = g 10 from hR.1.1.see]
  have hRK := kw_keepR (o := o) (k := k) hR
  have hX := hRK.1.see (v := nI x) ⟨x, by omega, rfl⟩
  rw [kn_up_row, kx_129] at hX
  exact hQ _ (kw_fin hR hfi hJ h4 h5 h6 (fun a ha => kn_up_ne _ _ _ (by omega)) ⟨hX, by rw [kn_upk (by decide)]; exact hRK.2⟩ hfi (Nat.le_refl _) (hJ.put hR.1.2.2.1.2.2 (hJ.1.free (by decide) (by decide) (by decide) (by omega) (by omega)) (by omega)))
/-- begun anew with M cylinders -/
def kw_new (g : Nat → Int32) (M : Nat) : Nat → Int32 := kg_begins (kx g) (nI M) 129
theorem kw_new_at (g : Nat → Int32) (M : Nat) {j : Nat} (hj : j < 254) : kw_new g M j = if 25 ≤ j ∧ j < 33 then 51200 else if j = 16 then -1 else if 12 ≤ j then 0 else if j = 9 then 0 else if j = 8 then nI M else g j := by
  unfold kw_new
  rw [kg_begins_at _ _ hj, kx_129]
theorem kw_new0 (g : Nat → Int32) (M : Nat) {j : Nat} (hj : j < 254) (h1 : 33 ≤ j ∨ (12 ≤ j ∧ j < 25 ∧ j ≠ 16)) : kw_new g M j = 0 := by
  rw [kw_new_at g M hj, if_neg (by omega), if_neg (by omega), if_pos (by omega)]
theorem kw_newJ (g : Nat → Int32) {M : Nat} (h : ∀ k, k < 8 → (kn_least k).toInt ≤ (g k).toInt ∧ (g k).toInt ≤ (kn_most k).toInt) (hM : M ≤ 8) : kw_J (kw_new g M) M 0 := by
  refine ⟨⟨fun k hk => ?_, fun c hc => ?_, fun c hc => ?_, Or.inl ?_, 0, fun _ => 0, fun _ => 0, ⟨by omega, ?_⟩, fun i hi => absurd hi (by omega), fun i hi => absurd hi (by omega), Nat.zero_le _⟩, 0, 0, ?_, ?_, Nat.le_refl _, Nat.le_refl _, Or.inl rfl, Or.inr (by omega)⟩
  · rw [kw_new_at g M (by omega), if_neg (by omega), if_neg (by omega), if_neg (by omega), if_neg (by omega), if_neg (by omega)]
    exact h k hk
  · rw [kw_new0 g M (by omega) (by omega)]; exact ⟨0, by omega, rfl⟩
  · rw [kw_new0 g M (by omega) (by omega)]; exact ⟨0, by omega, rfl⟩
  · rw [kw_new_at g M (by omega), if_neg (by omega), if_pos rfl]
  · exact kw_new0 g M (by omega) (by omega)
  · exact kw_new0 g M (by omega) (by omega)
  · exact kw_new0 g M (by omega) (by omega)
theorem cw_begin {M : Nat} (hK : kn_isK z) (W : kw_W σ B g m fi l) (hM : 2 ≤ M ∧ M ≤ 8) (hQ : ∀ σ', kw_W σ' B (kw_new g M) M 0 (kw_push (g, m, fi) l) → Q (.inl (some (.int (nI fi)))) σ' τ z) : kn_Ev X ML_begin [.ref 0, .int (nI M)] σ τ z 2 12 Q := by
  obtain ⟨⟨hR, hfi, hJ⟩, o, k, len, h4, h5, h6⟩ := W
  have hI := kw_IX hR h4 h5 h6
  have hin : ¬ kf_within (nI M) 2 8 = 0 := by
    have : M = 2 ∨ M = 3 ∨ M = 4 ∨ M = 5 ∨ M = 6 ∨ M = 7 ∨ M = 8 := by omega
    rcases this with rfl | rfl | rfl | rfl | rfl | rfl | rfl <;> decide
  refine m_L_begin hK (fun Q6 q6 => m_X6_begin (c := 1) (n := 6) hK hI (fun hx => q6 _ _ _ _ ⟨rfl, ?_⟩) (fun hx => absurd hx hin))
  show Q (.inl (some (.int (σ 1 13)))) (kf_restart (kf_keepH σ 41 1 o k) 1 (nI M)) τ z
  rw [show σ 1 13 = nI fi from hR.1.1.fir.trans hR.1.2.2.2.1]
  have hRK := kw_keepR (o := o) (k := k) hR
  have hR' := kr_restart (s := kf_keepH σ 41 1 o k) (b := 1) (t := kx g) (M := M) hM (fun c hc => ⟨hRK.1.1.set hc, hRK.1.2.2.2.2.2.1.2.2 c hc⟩) hRK.1.2.2.2.2.2.1.1 ⟨hRK.1.1.see, hRK.1.2.2.2.2.2.1.2.1⟩ ⟨hRK.1.1.bro, hRK.1.2.2.2.2.1.1⟩
  exact hQ _ (kw_fin hR hfi hJ h4 h5 h6 (fun a ha => kf_restart_ne _ _ (by omega)) hR' (Nat.zero_le _) (Nat.le_refl _) (kw_newJ g hJ.1.1 hM.2))
/-- a firing's row, its answer -/
def kw_T (g : Nat → Int32) (m cl : Nat) (e : Int32) : Nat → Int32 := kg_tr (kx g) m cl e 129
theorem cw_fire {x y : Int32} {cl e : Nat} (hK : kn_isK z) (W : kw_W σ B g m fi l) (ho : ¬ kf_isOp x y = 0) (hce : kf_cell x y = nI cl) (hcl : cl < 24) (he : e ≤ 20000) (hB : B + 1000 < 2 ^ 31) (hQ : ∀ σ', kw_W σ' (B + 1000) (kw_T g m cl (nI e)) m (fi + 1) (kw_push (g, m, fi) l) → Q (.inl (some (.int (kg_ta (kx g) m cl (nI e))))) σ' τ z) : kn_Ev X ML_fire [.ref 0, .int x, .int y, .int (nI e)] σ τ z 2 12 Q := by
  obtain ⟨⟨hR, hfi, hJ⟩, o, k, len, h4, h5, h6⟩ := W
  have hI := kw_IX hR h4 h5 h6
  have hF : ¬ kf_isFir x y (nI e) = 0 := by
    unfold kf_isFir kf_and
    rw [if_neg ho, if_neg (show ¬ kf_within (nI e) 0 20000 = 0 from kr_inN (N := 20000) he (by decide))]
    decide
  refine m_L_fire hK (fun Q6 q6 => m_X6_fire (c := 1) (n := 6) hK hI (fun hx => q6 _ _ _ _ ⟨rfl, ?_⟩) (fun hx => absurd hx hF))
  show Q (.inl (some (.int (kf_to (kf_keepH σ 41 1 o k) 1 x y (nI e))))) (kf_treat (kf_keepH σ 41 1 o k) 1 m x y (nI e)) τ z
  have hRK := kw_keepR (o := o) (k := k) hR
  obtain ⟨t1, t2, -⟩ := kr_treat (t := kx g) (x := x) (y := y) hRK ⟨e, he, rfl⟩ hce hcl (by omega)
  rw [t2]
  refine hQ _ (kw_fin hR hfi hJ h4 h5 h6 (fun a ha => kf_treat_ne _ _ _ _ _ (by omega)) t1 (by omega) (by omega) ?_)
  exact kw_tr (t := kx g) (by rw [kx_129]; exact hR.1.2.2) (by rw [kx_129]; exact hJ) (by omega) hcl
theorem kf_drv_ne (m : Nat) (x y w : Int32) (s : kn_S) {b a : Nat} (h : a < b ∨ b + 20 ≤ a) : ∀ j, (kf_drv b m x y w s j).2 a = s a
  | 0 => rfl
  | j + 1 => by
    show kf_mod (kf_drv b m x y w s j).2 b m x y w a = s a
    rw [kf_mod_ne _ _ _ _ _ h, kf_drv_ne m x y w s h j]
theorem cw_drive {x y w : Int32} {cl v : Nat} (hK : kn_isK z) (W : kw_W σ B g m fi l) (ho : kr_op x y w cl) (hv : v ≤ 1000) (hB : B + 1000 < 2 ^ 31) (hQ : ∀ σ', kw_W σ' (B + 1000) (gD m cl x y w g v).2 m (fi + v) (kw_push (g, m, fi) l) → Q (.inl (some (.int (gD m cl x y w g v).1))) σ' τ z) : kn_Ev X ML_drive [.ref 0, .int x, .int y, .int w, .int (nI v)] σ τ z 2 12 Q := by
  obtain ⟨⟨hR, hfi, hJ⟩, o, k, len, h4, h5, h6⟩ := W
  have hI := kw_IX hR h4 h5 h6
  have hD : ¬ kf_and (kf_isDrv x y w) (kf_within (nI v) 0 1000) = 0 := by
    unfold kf_isDrv kf_and
    rw [if_neg ho.1, if_neg ho.2.1, if_neg (by decide), if_neg (show ¬ kf_within (nI v) 0 1000 = 0 from kr_inN (N := 1000) hv (by decide))]
    decide
  refine m_L_drive hK (fun Q6 q6 => m_X6_drive (c := 1) (n := 6) hK hI (fun j hj hj1 hx => q6 _ _ _ _ ⟨rfl, ?_⟩) (fun hx => absurd hx hD))
  obtain rfl : v = j := (nI_eq (by omega) (by omega)).mp hj
  show Q (.inl (some (.int (kf_drv 1 m x y w (kf_keepH σ 41 1 o k) v).1))) (kf_drv 1 m x y w (kf_keepH σ 41 1 o k) v).2 τ z
  have hRK : kr_R (kf_keepH σ 41 1 o k) 1 g m fi := hR.to fun a q1 q2 => kf_keepH_ne _ _ _ (by omega)
  obtain ⟨d1, d2, d3⟩ := kw_drv hRK hJ ho v (by omega)
  rw [d2]
  exact hQ _ (kw_fin hR hfi hJ h4 h5 h6 (fun a ha => kf_drv_ne _ _ _ _ _ (by omega) _) d1 (by omega) (by omega) d3)
theorem cw_undo {q : kw_G} (hK : kn_isK z) (W : kw_W σ B g m fi (q :: l)) (hQ : ∀ (σ' : kn_S) (k : Nat), k ≤ 4 → kw_W σ' B q.1 q.2.1 q.2.2 l → Q (.inl (some (.int (nI k)))) σ' τ z) : kn_Ev X ML_undo [.ref 0] σ τ z 2 12 Q := by
  obtain ⟨⟨hR, hfi, hJ⟩, o, k, len, h4, h5, h6⟩ := W
  have hI := kw_IX hR h4 h5 h6
  obtain ⟨w, rfl⟩ : ∃ w, k = w + 1 := ⟨l.length, by have := h4.1.2.2; rw [List.length_cons] at this; exact this.symm⟩
  have hw4 : w + 1 ≤ 4 := h4.1.2.1.2
  have e : ¬ σ 41 2 ≤ 0 := by rw [h4.1.2.1.1]; exact nI_nle (by omega) (by omega)
  obtain ⟨g0, m0, f0⟩ := q
  obtain ⟨⟨r1, r2, r3⟩, r4, r5, r6⟩ := kw_undoH h4
  refine m_L_undo hK (fun Q6 q6 => m_X6_undo (c := 1) (n := 6) hK hI (fun _ => q6 _ _ _ _ ⟨rfl, ?_⟩) (fun hx => absurd hx e))
  show Q (.inl (some (.int (kf_restH σ 41 1 o (w + 1) 41 2)))) (kf_restH σ 41 1 o (w + 1)) τ z
  rw [r5]
  exact hQ _ w (by omega) ⟨⟨r1, r2, r3⟩, o, w, len, r4, by rw [r6 123 (by decide)]; exact h5, h6⟩
theorem cw_quiet {x y w : Int32} {cl : Nat} (hK : kn_isK z) (W : kw_W σ B g m fi l) (ho : kr_op x y w cl) (hQ : ∀ (σ' : kn_S) (v : Int32), (v = -1 ∨ ∃ t : Nat, v = nI t ∧ 5 * m ≤ t ∧ t ≤ 1000) → kw_W σ' B g m fi l → Q (.inl (some (.int v))) σ' τ z) : kn_Ev X ML_quietAfter [.ref 0, .int x, .int y, .int w] σ τ z 2 12 Q := by
  have W0 := W
  obtain ⟨⟨hR, hfi, hJ⟩, o, k, len, h4, h5, h6⟩ := W
  have hI := kw_IX hR h4 h5 h6
  have hm := hR.1.2.2.1
  have hD : ¬ kf_isDrv x y w = 0 := by
    unfold kf_isDrv kf_and
    rw [if_neg ho.1, if_neg ho.2.1]
    decide
  refine m_L_quietAfter hK (fun Q6 q6 => m_X6_quietAfter (c := 1) (n := 6) hK hI (fun hx => q6 _ _ _ _ ⟨rfl, ?_⟩) (fun hx => absurd hx hD))
  have hwant : 5 * kf_cpySt σ 21 1 1 7 = nI (5 * m) := by rw [kf_cpySt_ne _ (by omega), hR.1.1.cyl, hm.1]; exact pk_mul 5 m
  show Q (.inl (some (.int (kf_qa m x y w (5 * kf_cpySt σ 21 1 1 7) 1000 1 (kf_cpySt σ 21 1) 0).1))) (kf_qa m x y w (5 * kf_cpySt σ 21 1 1 7) 1000 1 (kf_cpySt σ 21 1) 0).2 τ z
  rw [hwant]
  refine hQ _ _ ?_ (W0.to (Nat.le_refl _) fun a q1 q2 q3 => by rw [kf_qa_ne q2, kf_cpySt_ne _ (by omega)])
  rcases kw_qa (m := m) (x := x) (y := y) (w := w) (W := 5 * m) (by omega) 1000 1 0 (kf_cpySt σ 21 1) (by omega) (by omega) with h | ⟨t, t1, t2, t3⟩
  · exact Or.inl h
  · exact Or.inr ⟨t, t1, t2, by omega⟩
theorem cw_low {x y : Int32} {cl cnt : Nat} (hK : kn_isK z) (W : kw_W σ B g m fi l) (ho : ¬ kf_isOp x y = 0) (hce : kf_cell x y = nI cl) (hcl : cl < 24) (hc : 1 ≤ cnt ∧ cnt ≤ 100) (hB : B + 1000 < 2 ^ 31) (hQ : ∀ (σ' : kn_S) (v : Int32), (v = -1 ∨ ∃ c : Nat, v = nI c ∧ 80 ≤ c ∧ c ≤ 110 ∧ (gD m cl x y (nI c) g cnt).1 = 0) → kw_W σ' B g m fi l → Q (.inl (some (.int v))) σ' τ z) : kn_Ev X ML_lowestOctane [.ref 0, .int x, .int y, .int (nI cnt)] σ τ z 2 12 Q := by
  have W0 := W
  obtain ⟨⟨hR, hfi, hJ⟩, o, k, len, h4, h5, h6⟩ := W
  have hI := kw_IX hR h4 h5 h6
  have hw : ¬ kf_within (nI cnt) 1 100 = 0 := by
    unfold kf_within
    rw [if_neg (show ¬ nI cnt < 1 from nI_nlt (b := 1) hc.1 (by omega)), if_neg (show ¬ (100 : Int32) < nI cnt from nI_nlt (a := 100) hc.2 (by decide))]
    decide
  have hD : ¬ kf_and (kf_isOp x y) (kf_within (nI cnt) 1 100) = 0 := by
    unfold kf_and
    rw [if_neg ho, if_neg hw]
    decide
  refine m_L_lowestOctane hK (fun Q6 q6 => m_X6_lowestOctane (c := 1) (n := 6) hK hI (fun c hcv hc1 hx => q6 _ _ _ _ ⟨rfl, ?_⟩) (fun hx => absurd hx hD))
  obtain rfl : cnt = c := (nI_eq (by omega) (by omega)).mp hcv
  exact hQ _ _ (kw_low ho hce hcl (by omega) 31 80 σ rfl (by omega) hR) (W0.to (Nat.le_refl _) fun a q1 q2 q3 => kf_low_ne q2 31 80 σ)
end CY
