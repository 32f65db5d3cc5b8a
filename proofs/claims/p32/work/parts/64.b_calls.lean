-- what is told
theorem kr_inN {k N : Nat} (h : k ≤ N) (hN : N < 2 ^ 31) : ¬ kf_within (nI k) 0 (nI N) = 0 := by
  unfold kf_within
  rw [if_neg (nI_pos (by omega)), if_neg (nI_nlt h (by omega))]
  decide
theorem kr_cellIn {r j : Nat} (h1 : r ≤ 5) (h2 : j ≤ 3) : ¬ kf_isCell (nI r) (nI j) = 0 := by
  have q1 : r = 0 ∨ r = 1 ∨ r = 2 ∨ r = 3 ∨ r = 4 ∨ r = 5 := by omega
  have q2 : j = 0 ∨ j = 1 ∨ j = 2 ∨ j = 3 := by omega
  rcases q1 with rfl | rfl | rfl | rfl | rfl | rfl <;> rcases q2 with rfl | rfl | rfl | rfl <;> decide
def kw_val (g : Nat → Int32) (m k : Nat) : Int32 := if k = 8 then nI m else g k
def kw_sta (g : Nat → Int32) (k : Nat) : Int32 := if k = 0 then g 12 else if k = 1 then g 13 else if k = 2 then g 14 else if k = 3 then g 15 else g 16
def kw_cyl (g : Nat → Int32) (c w : Nat) : Int32 := if w = 0 then g (17 + c) else if w = 1 then g (25 + c) else if w = 2 then g (33 + c) else if w = 3 then kg_thr (kx g) c else g (41 + c)
theorem kw_isCyl {σ : kn_S} {g : Nat → Int32} {m fi c : Nat} (h : kr_R σ 1 g m fi) (hc : c < m) : ¬ kf_isCyl σ (nI c) = 0 := by
  have hm := h.1.2.2.1
  unfold kf_isCyl
  obtain ⟨m', rfl⟩ : ∃ m', m = m' + 1 := ⟨m - 1, by omega⟩
  rw [h.1.1.cyl.trans hm.1, nI_pred]
  exact kr_inN (by omega) (by omega)
theorem kw_noCyl {σ : kn_S} {g : Nat → Int32} {m fi c : Nat} (h : kr_R σ 1 g m fi) (hc : m ≤ c) (hc2 : c < 2 ^ 31) : kf_isCyl σ (nI c) = 0 := by
  have hm := h.1.2.2.1
  unfold kf_isCyl kf_within
  obtain ⟨m', rfl⟩ : ∃ m', m = m' + 1 := ⟨m - 1, by omega⟩
  rw [h.1.1.cyl.trans hm.1, nI_pred, if_neg (nI_pos (by omega)), if_pos (nI_lt (by omega) (by omega))]
theorem kw_log {σ : kn_S} {g : Nat → Int32} {m fi : Nat} (h : kr_R σ 1 g m fi) : ∃ lc, σ 14 4 = nI lc ∧ g 73 = nI lc ∧ lc ≤ 60 ∧ ∀ j, j < lc → kf_about σ 14 (nI j) 0 = g (74 + 3 * j) ∧ kf_about σ 14 (nI j) 1 = g (74 + 3 * j + 1) ∧ kf_about σ 14 (nI j) 2 = g (74 + 3 * j + 2) := by
  obtain ⟨o9, lc, ⟨h3, ho⟩, ⟨h4, h73, hlc⟩, hi⟩ := h.1.2.1
  refine ⟨lc, h4, h73, hlc, fun j hj => ?_⟩
  have hp : kf_place σ 14 (nI j) = nI ((o9 + j) % 60) := kr_place h3 rfl ho (by omega)
  have hl : (o9 + j) % 60 < 60 := Nat.mod_lt _ (by omega)
  obtain ⟨e0, e1, e2⟩ := hi j hj
  refine ⟨?_, ?_, ?_⟩
  · unfold kf_about
    rw [if_pos rfl, hp, kf_at_nI (by decide) hl]
    exact e0
  · unfold kf_about
    rw [if_neg (by decide), if_pos rfl, hp, kf_at_nI (by decide) hl]
    exact e1
  · unfold kf_about
    rw [if_neg (by decide), if_neg (by decide), hp, kf_at_nI (by decide) hl]
    exact e2
section CW
variable {X : kn_X} {z : kn_Z} {σ : kn_S} {τ : kn_T} {m fi : Nat} {g : Nat → Int32} {Q : kn_Q}
theorem cw_firings (hK : kn_isK z) (h : kr_R σ 1 g m fi) (hQ : Q (.inl (some (.int (nI fi)))) σ τ z) : kn_Ev X MX6_firings [.ref 0] σ τ z 0 0 Q := by
  refine m_X6_firings hK ?_
  rw [h.1.1.fir.trans h.1.2.2.2.1]; exact hQ
theorem cw_next (hK : kn_isK z) (h : kr_R σ 1 g m fi) (hQ : Q (.inl (some (.int (nI (fi % m))))) σ τ z) : kn_Ev X MX6_next [.ref 0] σ τ z 0 0 Q := by
  refine m_X6_next hK ?_
  rw [h.2]; exact hQ
theorem cw_events (hK : kn_isK z) (h : kr_R σ 1 g m fi) (hQ : Q (.inl (some (.int (g 73)))) σ τ z) : kn_Ev X MX6_events [.ref 0] σ τ z 0 0 Q := by
  obtain ⟨lc, l1, l2, -⟩ := kw_log h
  refine m_X6_events hK ?_
  rw [l1, ← l2]; exact hQ
theorem cw_value {k : Nat} (hK : kn_isK z) (h : kr_R σ 1 g m fi) (hk : k ≤ 8) (hQ : Q (.inl (some (.int (kw_val g m k)))) σ τ z) : kn_Ev X ML_value [.ref 0, .int (nI k)] σ τ z 2 12 Q := by
  refine m_L_value hK (fun Q6 h6 => m_X6_value (c := 1) (n := 6) hK (fun hx => h6 _ _ _ _ ⟨rfl, ?_⟩) (fun hx => absurd hx (kr_inN (N := 8) hk (by decide))))
  show Q (.inl (some (.int (kf_setOr σ 1 (nI k))))) σ τ z
  have e : kf_setOr σ 1 (nI k) = kw_val g m k := by
    unfold kf_setOr kw_val
    by_cases q : k = 8
    · subst q
      rw [if_pos (show nI 8 = 8 from rfl), if_pos rfl]
      exact h.1.1.cyl.trans h.1.2.2.1.1
    · rw [if_neg (show ¬ nI k = 8 from fun w => q ((nI_eq (a := k) (b := 8) (by omega) (by decide)).mp w)), if_neg q, kf_at_nI (by decide) (by omega)]
      exact h.1.1.set (by omega)
  rw [e]; exact hQ
theorem cw_status {k : Nat} (hK : kn_isK z) (h : kr_R σ 1 g m fi) (hk : k ≤ 4) (hQ : Q (.inl (some (.int (kw_sta g k)))) σ τ z) : kn_Ev X ML_status [.ref 0, .int (nI k)] σ τ z 2 12 Q := by
  refine m_L_status hK (fun Q6 h6 => m_X6_status (c := 1) (n := 6) hK (fun hx => h6 _ _ _ _ ⟨rfl, ?_⟩) (fun hx => absurd hx (kr_inN (N := 4) hk (by decide))))
  show Q (.inl (some (.int (kf_aboutCtl σ 1 (nI k))))) σ τ z
  have e : kf_aboutCtl σ 1 (nI k) = kw_sta g k := by
    have : k = 0 ∨ k = 1 ∨ k = 2 ∨ k = 3 ∨ k = 4 := by omega
    rcases this with rfl | rfl | rfl | rfl | rfl
    · show (if σ 1 12 = 0 then 0 else 1) = g 12
      rw [h.1.1.fau]
      rcases h.1.2.2.2.2.1.2 with q | q <;> rw [q] <;> rfl
    · exact h.1.1.low
    · exact h.1.1.goo
    · exact h.1.1.ste
    · exact h.1.1.las
  rw [e]; exact hQ
theorem cw_cylinder {c w : Nat} (hK : kn_isK z) (h : kr_R σ 1 g m fi) (hc : c < m) (hw : w ≤ 4) (hQ : Q (.inl (some (.int (kw_cyl g c w)))) σ τ z) : kn_Ev X ML_cylinder [.ref 0, .int (nI c), .int (nI w)] σ τ z 2 12 Q := by
  have hm := h.1.2.2.1.2
  refine m_L_cylinder hK (fun Q6 h6 => m_X6_cylinder (c := 0) (n := 0) hK (fun hx hy => h6 _ _ _ _ ⟨rfl, ?_⟩) (fun hx => absurd hx (kw_isCyl h hc)) (fun hx hy => absurd hy (kr_inN (N := 4) hw (by decide))))
  show Q (.inl (some (.int (kf_aboutCyl σ 1 (nI c) (nI w))))) σ τ z
  have et : kf_thr σ 1 (nI c) = kg_thr (kx g) c := kr_thr (t := kx g) (by rw [kx_129]; exact h.1.1) (by omega)
  have e : kf_aboutCyl σ 1 (nI c) (nI w) = kw_cyl g c w := by
    have : w = 0 ∨ w = 1 ∨ w = 2 ∨ w = 3 ∨ w = 4 := by omega
    unfold kf_aboutCyl
    rw [et, kf_at_nI (by decide) (by omega), kf_at_nI (by decide) (by omega), kf_at_nI (by decide) (by omega), kf_at_nI (by decide) (by omega), h.1.1.fast (by omega), h.1.1.lev (by omega), h.1.1.qui (by omega), h.1.1.kno (by omega)]
    rcases this with rfl | rfl | rfl | rfl | rfl <;> rfl
  rw [e]; exact hQ
theorem cw_learned {r j : Nat} (hK : kn_isK z) (h : kr_R σ 1 g m fi) (hr : r ≤ 5) (hj : j ≤ 3) (hQ : Q (.inl (some (.int (g (49 + (4 * r + j)))))) σ τ z) : kn_Ev X ML_learned [.ref 0, .int (nI r), .int (nI j)] σ τ z 2 12 Q := by
  refine m_L_learned hK (fun Q6 h6 => m_X6_learned (c := 1) (n := 6) hK (fun hx => h6 _ _ _ _ ⟨rfl, ?_⟩) (fun hx => absurd hx (kr_cellIn hr hj)))
  show Q (.inl (some (.int (kf_at (σ 13) 24 (4 * nI r + nI j))))) σ τ z
  have e : kf_at (σ 13) 24 (4 * nI r + nI j) = g (49 + (4 * r + j)) := by
    rw [show (4 : Int32) = nI 4 from rfl, pk_mul, nI_add, kf_at_nI (by decide) (by omega)]
    exact h.1.1.lea (by omega)
  rw [e]; exact hQ
theorem cw_event {i w : Nat} {lc : Nat} (hK : kn_isK z) (h : kr_R σ 1 g m fi) (hl : g 73 = nI lc) (hlc : lc ≤ 60) (hi : i < lc) (hw : w ≤ 2) (hQ : Q (.inl (some (.int (g (74 + 3 * i + w))))) σ τ z) : kn_Ev X ML_event [.ref 0, .int (nI i), .int (nI w)] σ τ z 2 12 Q := by
  obtain ⟨lc', l1, l2, l3, l4⟩ := kw_log h
  obtain rfl : lc' = lc := (nI_eq (by omega) (by omega)).mp (l2.symm.trans hl)
  have hin : ¬ kf_within (nI i) 0 (σ 14 4 - 1) = 0 := by
    obtain ⟨n', rfl⟩ : ∃ n', lc' = n' + 1 := ⟨lc' - 1, by omega⟩
    rw [l1, nI_pred]
    exact kr_inN (by omega) (by omega)
  refine m_L_event hK (fun Q6 h6 => m_X6_event (c := 0) (n := 0) hK (fun hx hy => h6 _ _ _ _ ⟨rfl, ?_⟩) (fun hx => absurd hx hin) (fun hx hy => absurd hy (kr_inN (N := 2) hw (by decide))))
  show Q (.inl (some (.int (kf_about σ 14 (nI i) (nI w))))) σ τ z
  obtain ⟨e0, e1, e2⟩ := l4 i hi
  have e : kf_about σ 14 (nI i) (nI w) = g (74 + 3 * i + w) := by
    have : w = 0 ∨ w = 1 ∨ w = 2 := by omega
    rcases this with rfl | rfl | rfl
    · exact e0
    · exact e1
    · exact e2
  rw [e]; exact hQ
def kw_evo (g : Nat → Int32) (x : Int32) : Nat → Int32
  | 0 => 0
  | j + 1 => if g (74 + 3 * j) = x then kw_evo g x j + 1 else kw_evo g x j
theorem cw_eventsOf {k lc : Nat} (hK : kn_isK z) (h : kr_R σ 1 g m fi) (hl : g 73 = nI lc) (hlc : lc ≤ 60) (hk : k ≤ 4) (hQ : Q (.inl (some (.int (kw_evo g (nI k) lc)))) σ τ z) : kn_Ev X ML_eventsOf [.ref 0, .int (nI k)] σ τ z 2 12 Q := by
  obtain ⟨lc', l1, l2, l3, l4⟩ := kw_log h
  obtain rfl : lc' = lc := (nI_eq (by omega) (by omega)).mp (l2.symm.trans hl)
  have ev : ∀ j, j ≤ lc' → kf_evs σ (nI k) j = kw_evo g (nI k) j := by
    intro j
    induction j with
    | zero => intro _; rfl
    | succ j ih =>
      intro hj
      unfold kf_evs kw_evo
      rw [(l4 j (by omega)).1, ih (by omega)]
  refine m_L_eventsOf hK (fun Q6 h6 => m_X6_eventsOf (c := 1) (n := 6) hK l1 l3 (fun hx => h6 _ _ _ _ ⟨rfl, ?_⟩) (fun hx => absurd hx (kr_inN (N := 4) hk (by decide))))
  show Q (.inl (some (.int (kf_evs σ (nI k) lc')))) σ τ z
  rw [ev lc' (Nat.le_refl _)]; exact hQ
theorem kw_retE {c cl : Nat} (h : kr_R σ 1 g m fi) (hc : c < m) (hcl : cl < 24) : kf_ret σ 1 (nI c) (nI cl) = kg_ret (kx g) c cl := by
  have hm := h.1.2.2.1.2
  exact kr_ret (t := kx g) (by rw [kx_129]; exact h.1) (by omega) hcl
theorem cw_angle0 {c cl : Nat} {x y : Int32} (hK : kn_isK z) (h : kr_R σ 1 g m fi) (hc : c < m) (ho : ¬ kf_isOp x y = 0) (hce : kf_cell x y = nI cl) (hcl : cl < 24) (hQ : Q (.inl (some (.int (kg_ret (kx g) c cl)))) σ τ z) : kn_Ev X ML_angle [.ref 0, .int (nI c), .int x, .int y, .int 0] σ τ z 2 12 Q := by
  refine m_L_angle hK (fun Q6 h6 => m_X6_angle (c := 0) (n := 0) hK (fun hx hy => h6 _ _ _ _ ⟨rfl, ?_⟩) (fun hx => absurd hx (kw_isCyl h hc)) (fun hx hy => absurd hy ho))
  show Q (.inl (some (.int (kf_ret σ 1 (nI c) (kf_cell x y))))) σ τ z
  rw [hce, kw_retE h hc hcl]; exact hQ
theorem cw_angle1 {c cl : Nat} {x y : Int32} (hK : kn_isK z) (h : kr_R σ 1 g m fi) (hc : c < m) (ho : ¬ kf_isOp x y = 0) (hce : kf_cell x y = nI cl) (hcl : cl < 24) (hQ : Q (.inl (some (.int (kf_badv x y - kg_ret (kx g) c cl)))) σ τ z) : kn_Ev X ML_angle [.ref 0, .int (nI c), .int x, .int y, .int 1] σ τ z 2 12 Q := by
  refine m_L_angle hK (fun Q6 h6 => m_X6_angle (c := 0) (n := 0) hK (fun hx hy => h6 _ _ _ _ ⟨rfl, ?_⟩) (fun hx => absurd hx (kw_isCyl h hc)) (fun hx hy => absurd hy ho))
  show Q (.inl (some (.int (kf_badv x y - kf_ret σ 1 (nI c) (kf_cell x y))))) σ τ z
  rw [hce, kw_retE h hc hcl]; exact hQ
theorem cw_limit0 {x y w : Int32} (hK : kn_isK z) (ho : ¬ kf_isDrv x y w = 0) (hQ : Q (.inl (some (.int (kf_klim x y w)))) σ τ z) : kn_Ev X ML_limit [.ref 0, .int (-1), .int x, .int y, .int w] σ τ z 2 12 Q := by
  refine m_L_limit hK (fun Q6 h6 => m_X6_limit (c := 0) (n := 0) hK (fun hx hy => h6 _ _ _ _ ⟨rfl, hQ⟩) (fun hx => absurd rfl hx) (fun hx => absurd rfl hx) (fun hx hy => absurd hy ho))
theorem cw_limit1 {c cl : Nat} {x y w : Int32} (hK : kn_isK z) (h : kr_R σ 1 g m fi) (hc : c < m) (ho : ¬ kf_isDrv x y w = 0) (hce : kf_cell x y = nI cl) (hcl : cl < 24) (hQ : Q (.inl (some (.int (kf_badv x y - kg_ret (kx g) c cl - kf_klim x y w)))) σ τ z) : kn_Ev X ML_limit [.ref 0, .int (nI c), .int x, .int y, .int w] σ τ z 2 12 Q := by
  have hm := h.1.2.2.1.2
  have hn : ¬ nI c = -1 := by
    intro q
    have e1 := congrArg Int32.toInt q
    rw [nI_toInt (by omega)] at e1
    have : (-1 : Int32).toInt = -1 := by decide
    omega
  refine m_L_limit hK (fun Q6 h6 => m_X6_limit (c := 0) (n := 0) hK (fun hx hy => absurd hx hn) (fun _ hx hy => h6 _ _ _ _ ⟨rfl, ?_⟩) (fun _ hx => absurd hx (kw_isCyl h hc)) (fun hx hy => absurd hy ho))
  show Q (.inl (some (.int (kf_badv x y - kf_ret σ 1 (nI c) (kf_cell x y) - kf_klim x y w)))) σ τ z
  rw [hce, kw_retE h hc hcl]; exact hQ
theorem kw_lfI {t : kn_S} (hf : ∀ c, c < 8 → kr_le (t 129 (17 + c)) 200) (hm : m ≤ 8) : ∀ j, j ≤ 8 → 0 ≤ (kg_lf t m j).toInt ∧ (kg_lf t m j).toInt ≤ (kg_gr t m).toInt
  | 0, _ => by
    have := (kw_grI hf rfl m hm).i (by decide)
    exact ⟨this.1, Int.le_refl _⟩
  | j + 1, hj => by
    have h1 := kw_lfI hf hm j (by omega)
    have h2 := (hf j (by omega)).i (by decide)
    unfold kg_lf
    rw [kf_min_i]
    omega
theorem kw_lf {t : kn_S} {s : kn_S} (hA : kr_A s 1 (t 129)) (hm : m ≤ 8) : ∀ j, j < m → kg_lf t m (j + 1) = kf_fold (fun k => s 5 (k + 1)) kf_min (s 5 0) j
  | 0, hj => by
    show kf_min (kg_gr t m) (t 129 (17 + 0)) = s 5 0
    rw [show s 5 0 = t 129 (17 + 0) from hA.fast (c := 0) (by decide)]
    have := kw_gr_ge t m 0 hj
    exact Int32.toInt_inj.mp (by rw [kf_min_i]; omega)
  | j + 1, hj => by
    show kf_min (kg_lf t m (j + 1)) (t 129 (17 + (j + 1))) = kf_min (kf_fold (fun k => s 5 (k + 1)) kf_min (s 5 0) j) (s 5 (j + 1))
    rw [kw_lf hA hm j (by omega), ← hA.fast (by omega)]
/-- how far the fast retards part -/
def kw_unf (g : Nat → Int32) (m : Nat) : Int32 := kg_gr (kx g) m - kg_lf (kx g) m m
theorem cw_unfairness (hK : kn_isK z) (h : kr_R σ 1 g m fi) (hQ : Q (.inl (some (.int (kw_unf g m)))) σ τ z) : kn_Ev X MX6_unfairness [.ref 0] σ τ z 0 0 Q := by
  have hm := h.1.2.2.1
  have hA : kr_A σ 1 (kx g 129) := by rw [kx_129]; exact h.1.1
  refine m_X6_unfairness hK (h.1.1.cyl.trans hm.1) ⟨by omega, hm.2.2⟩ ?_
  have eg : kf_gf σ 1 m = kg_gr (kx g) m := by
    unfold kf_gf
    rw [kr_gf (t := kx g) hA (by rw [kx_129]; exact h.1.2.2) (m - 1) (by omega)]
    exact congrArg (kg_gr (kx g)) (by omega)
  have es : kf_sf σ 1 m = kg_lf (kx g) m m := by
    have h9 := kw_lf (t := kx g) hA hm.2.2 (m - 1) (by omega)
    rw [show m - 1 + 1 = m by omega] at h9
    exact h9.symm
  rw [eg, es]; exact hQ
theorem kw_unfI (h : kr_I g m fi fi) (hf : ∀ c, c < 8 → kr_le (g (17 + c)) 200) : kr_le (kw_unf g m) 200 := by
  have hm := h.1.2.2
  have hf' : ∀ c, c < 8 → kr_le (kx g 129 (17 + c)) 200 := by rw [kx_129]; exact hf
  have h1 := (kw_grI hf' rfl m hm).i (by decide)
  have h2 := kw_lfI hf' hm m hm
  refine kr_le_of (by decide) ?_ ?_ <;> unfold kw_unf <;> rw [kr_sI (by omega)] <;> omega
theorem kw_unfS {S : Nat} (h : kr_I g m fi fi) (hf : ∀ c, c < 8 → kr_le (g (17 + c)) 200) (hs : kw_sp g m S) : (kw_unf g m).toInt ≤ S := by
  have hm := h.1.2
  have hf' : ∀ c, c < 8 → kr_le (kx g 129 (17 + c)) 200 := by rw [kx_129]; exact hf
  have h1 := (kw_grI hf' rfl m hm.2).i (by decide)
  have h2 := kw_lfI hf' hm.2 m hm.2
  obtain ⟨M, h0, h3⟩ := hs
  have e129 := kx_129 g
  have a1 : ∀ j, j ≤ m → (kg_gr (kx g) j).toInt ≤ M := by
    intro j
    induction j with
    | zero => intro _; exact h0
    | succ j ih =>
      intro hj
      have := ih (by omega)
      have := h3 j (by omega)
      unfold kg_gr
      rw [kr_maxE, kf_max_i, e129]
      omega
  have a3 := kw_gr_ge (kx g) m 0 (by omega)
  have a2 : ∀ j, j ≤ m → M - S ≤ (kg_lf (kx g) m j).toInt := by
    intro j
    induction j with
    | zero =>
      intro _
      have := h3 0 (by omega)
      rw [e129] at a3
      show M - S ≤ (kg_gr (kx g) m).toInt
      omega
    | succ j ih =>
      intro hj
      have := ih (by omega)
      have := h3 j (by omega)
      unfold kg_lf
      rw [kf_min_i, e129]
      omega
  have := a1 m (Nat.le_refl _)
  have := a2 m (Nat.le_refl _)
  unfold kw_unf
  rw [kr_sI (by omega)]
  omega
end CW
