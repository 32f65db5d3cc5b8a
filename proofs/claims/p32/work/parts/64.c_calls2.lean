-- what is refused
section CX
variable {X : kn_X} {z : kn_Z} {σ : kn_S} {τ : kn_T} {m fi : Nat} {g : Nat → Int32} {Q : kn_Q}
theorem cx_begin (hK : kn_isK z) {o k len : Nat} (hI : kn_I σ m o k len) (hQ : Q (.inl (some (.int (-5000001)))) σ τ z) : kn_Ev X ML_begin [.ref 0, .int 0] σ τ z 2 12 Q :=
  m_L_begin hK (fun Q6 h6 => m_X6_begin (c := 1) (n := 6) hK hI (fun hx => absurd (by decide) hx) (fun _ => h6 _ _ _ _ ⟨rfl, -5000001, List.mem_cons_self, hQ⟩))
theorem cx_set (hK : kn_isK z) {o k len : Nat} (hI : kn_I σ m o k len) (hQ : Q (.inl (some (.int (-5000001)))) σ τ z) : kn_Ev X ML_set [.ref 0, .int 0, .int 200] σ τ z 2 12 Q :=
  m_L_set hK (fun Q6 h6 => m_X6_set (c := 1) (n := 6) hK hI (fun hx => absurd (by decide) hx) (fun _ => h6 _ _ _ _ ⟨rfl, -5000001, List.mem_cons_self, hQ⟩))
theorem cx_value (hK : kn_isK z) (hQ : Q (.inl (some (.int (-5000001)))) σ τ z) : kn_Ev X ML_value [.ref 0, .int (-1)] σ τ z 2 12 Q :=
  m_L_value hK (fun Q6 h6 => m_X6_value (c := 1) (n := 6) hK (fun hx => absurd (by decide) hx) (fun _ => h6 _ _ _ _ ⟨rfl, -5000001, List.mem_cons_self, hQ⟩))
theorem cx_teach (hK : kn_isK z) {o k len : Nat} (hI : kn_I σ m o k len) (hQ : Q (.inl (some (.int (-5000003)))) σ τ z) : kn_Ev X ML_teach [.ref 0, .int (-1), .int 0, .int 0] σ τ z 2 12 Q :=
  m_L_teach hK (fun Q6 h6 => m_X6_teach (c := 0) (n := 0) hK hI (fun hx => absurd (by decide) hx) (fun _ => h6 _ _ _ _ ⟨rfl, -5000003, List.mem_cons_self, hQ⟩) (fun hx => absurd (by decide) hx))
theorem cx_seed (hK : kn_isK z) {o k len : Nat} (hI : kn_I σ m o k len) (hQ : Q (.inl (some (.int (-5000001)))) σ τ z) : kn_Ev X ML_seed [.ref 0, .int 5000000] σ τ z 2 12 Q :=
  m_L_seed hK (fun Q6 h6 => m_X6_seed (c := 1) (n := 6) hK hI (fun hx => absurd (by decide) hx) (fun _ => h6 _ _ _ _ ⟨rfl, -5000001, List.mem_cons_self, hQ⟩))
theorem cx_fire (hK : kn_isK z) {o k len : Nat} (hI : kn_I σ m o k len) (hQ : Q (.inl (some (.int (-5000001)))) σ τ z) : kn_Ev X ML_fire [.ref 0, .int 0, .int 0, .int 0] σ τ z 2 12 Q :=
  m_L_fire hK (fun Q6 h6 => m_X6_fire (c := 1) (n := 6) hK hI (fun hx => absurd (by decide) hx) (fun _ => h6 _ _ _ _ ⟨rfl, -5000001, List.mem_cons_self, hQ⟩))
theorem cx_drive (hK : kn_isK z) {o k len : Nat} (hI : kn_I σ m o k len) (hQ : Q (.inl (some (.int (-5000001)))) σ τ z) : kn_Ev X ML_drive [.ref 0, .int 600, .int 0, .int 70, .int 5] σ τ z 2 12 Q :=
  m_L_drive hK (fun Q6 h6 => m_X6_drive (c := 1) (n := 6) hK hI (fun _ _ _ hx => absurd (by decide) hx) (fun _ => h6 _ _ _ _ ⟨rfl, -5000001, List.mem_cons_self, hQ⟩))
theorem cx_cylinder {c : Nat} (hK : kn_isK z) (h : kr_R σ 1 g m fi) (hc : m ≤ c) (hc2 : c ≤ 8) (hQ : Q (.inl (some (.int (-5000003)))) σ τ z) : kn_Ev X ML_cylinder [.ref 0, .int (nI c), .int 0] σ τ z 2 12 Q :=
  m_L_cylinder hK (fun Q6 h6 => m_X6_cylinder (c := 0) (n := 0) hK (fun hx => absurd (kw_noCyl h hc (by omega)) hx) (fun _ => h6 _ _ _ _ ⟨rfl, -5000003, List.mem_cons_self, hQ⟩) (fun hx => absurd (kw_noCyl h hc (by omega)) hx))
theorem cx_learned (hK : kn_isK z) (hQ : Q (.inl (some (.int (-5000003)))) σ τ z) : kn_Ev X ML_learned [.ref 0, .int 9, .int 9] σ τ z 2 12 Q :=
  m_L_learned hK (fun Q6 h6 => m_X6_learned (c := 1) (n := 6) hK (fun hx => absurd (by decide) hx) (fun _ => h6 _ _ _ _ ⟨rfl, -5000003, List.mem_cons_self, hQ⟩))
theorem kw_noCylM (σ : kn_S) : kf_isCyl σ (-1) = 0 := by
  unfold kf_isCyl kf_within
  rw [if_pos (by decide)]
theorem cx_angle (hK : kn_isK z) (hQ : Q (.inl (some (.int (-5000003)))) σ τ z) : kn_Ev X ML_angle [.ref 0, .int (-1), .int 600, .int 0, .int 1] σ τ z 2 12 Q :=
  m_L_angle hK (fun Q6 h6 => m_X6_angle (c := 0) (n := 0) hK (fun hx => absurd (kw_noCylM σ) hx) (fun _ => h6 _ _ _ _ ⟨rfl, -5000003, List.mem_cons_self, hQ⟩) (fun hx => absurd (kw_noCylM σ) hx))
theorem cx_status (hK : kn_isK z) (hQ : Q (.inl (some (.int (-5000001)))) σ τ z) : kn_Ev X ML_status [.ref 0, .int (-1)] σ τ z 2 12 Q :=
  m_L_status hK (fun Q6 h6 => m_X6_status (c := 1) (n := 6) hK (fun hx => absurd (by decide) hx) (fun _ => h6 _ _ _ _ ⟨rfl, -5000001, List.mem_cons_self, hQ⟩))
theorem kr_octN (f : Nat → Int32) (x : Int32) : ∀ j, ∃ q : Nat, q ≤ j ∧ (kf_oct f x j).2 = nI q
  | 0 => ⟨0, Nat.le_refl _, rfl⟩
  | j + 1 => by
    obtain ⟨q, hq, e⟩ := kr_octN f x j
    unfold kf_oct
    split
    · exact ⟨q, by omega, e⟩
    · exact ⟨q + 1, by omega, by show (kf_oct f x j).2 + 1 = nI (q + 1); rw [e, nI_1]⟩
theorem kr_octF (f : Nat → Int32) (x : Int32) (w : ¬ (kf_oct f x 6).2 ≤ 0) : vf_n64 (FP.ddiv (FP.i2d (kf_oct f x 6).1) (FP.i2d (kf_oct f x 6).2)) ∧ vf_n64 (FP.ddiv (FP.ddiv (FP.i2d (kf_oct f x 6).1) (FP.i2d (kf_oct f x 6).2)) 4611686018427387904) ∧ vf_n64 (FP.dsub 4636737291354636288 (FP.ddiv (FP.ddiv (FP.i2d (kf_oct f x 6).1) (FP.i2d (kf_oct f x 6).2)) 4611686018427387904)) := by
  obtain ⟨q, hq, e⟩ := kr_octN f x 6
  rw [e] at w ⊢
  have q0 : 1 ≤ q := by
    rcases Nat.eq_zero_or_pos q with w2 | w2
    · rw [w2] at w
      exact absurd (nI_le (Nat.le_refl 0) (by decide)) w
    · exact w2
  exact fd_oct _ q0 hq
theorem cx_octane (hK : kn_isK z) (hQ : Q (.inl (some (.double 13930498760170799104))) σ τ z) : kn_Ev X ML_octane [.ref 0, .int 9] σ τ z 2 12 Q :=
  m_L_octane hK (fun Q6 h6 => m_X6_octane (c := 1) (n := 6) hK (kr_octF _ _) (fun hx => absurd (by decide) hx) (fun _ => h6 _ _ _ _ ⟨rfl, 13930498760170799104, List.mem_cons_self, hQ⟩))
theorem cx_extreme (hK : kn_isK z) (hQ : Q (.inl (some (.int (-5000003)))) σ τ z) : kn_Ev X ML_extreme [.ref 0, .int 9, .int 0, .int 1] σ τ z 2 12 Q :=
  m_L_extreme hK (fun Q6 h6 => m_X6_extreme_c (c := 1) (n := 6) hK rfl (fun hx => absurd (by decide) hx) (fun _ => h6 _ _ _ _ ⟨rfl, -5000003, List.mem_cons_self, hQ⟩))
theorem cx_event (hK : kn_isK z) (h : kr_R σ 1 g m fi) (hQ : Q (.inl (some (.int (-5000003)))) σ τ z) : kn_Ev X ML_event [.ref 0, .int 60, .int 0] σ τ z 2 12 Q := by
  obtain ⟨lc, l1, l2, l3, l4⟩ := kw_log h
  have hin : kf_within 60 0 (σ 14 4 - 1) = 0 := by
    rw [l1]
    unfold kf_within
    rw [if_neg (by decide)]
    have e1 : (1 : Int32).toInt = 1 := by decide
    have e60 : (60 : Int32).toInt = 60 := by decide
    have e2 : (nI lc - 1).toInt = (lc : Int) - 1 := by rw [kr_sI (by rw [nI_toInt (by omega), e1]; omega), nI_toInt (by omega), e1]
    rw [if_pos]
    rw [Int32.lt_iff_toInt_lt, e2, e60]
    omega
  exact m_L_event hK (fun Q6 h6 => m_X6_event (c := 0) (n := 0) hK (fun hx => absurd hin hx) (fun _ => h6 _ _ _ _ ⟨rfl, -5000003, List.mem_cons_self, hQ⟩) (fun hx => absurd hin hx))
theorem cx_eventsOf (hK : kn_isK z) (h : kr_R σ 1 g m fi) (hQ : Q (.inl (some (.int (-5000001)))) σ τ z) : kn_Ev X ML_eventsOf [.ref 0, .int (-1)] σ τ z 2 12 Q := by
  obtain ⟨lc, l1, l2, l3, l4⟩ := kw_log h
  exact m_L_eventsOf hK (fun Q6 h6 => m_X6_eventsOf (c := 1) (n := 6) hK l1 l3 (fun hx => absurd (by decide) hx) (fun _ => h6 _ _ _ _ ⟨rfl, -5000001, List.mem_cons_self, hQ⟩))
theorem cx_limit (hK : kn_isK z) (h : kr_R σ 1 g m fi) (hQ : Q (.inl (some (.int (-5000003)))) σ τ z) : kn_Ev X ML_limit [.ref 0, .int 8, .int 600, .int 0, .int 90] σ τ z 2 12 Q := by
  have hn : kf_isCyl σ 8 = 0 := kw_noCyl (c := 8) h h.1.2.2.1.2.2 (by decide)
  exact m_L_limit hK (fun Q6 h6 => m_X6_limit (c := 0) (n := 0) hK (fun hx => absurd hx (by decide)) (fun _ hx => absurd hn hx) (fun _ _ => h6 _ _ _ _ ⟨rfl, -5000003, List.mem_cons_self, hQ⟩) (fun hx _ => by
    rcases hx with hx | hx
    · exact absurd hx (by decide)
    · exact absurd hn hx))
theorem cx_quietAfter (hK : kn_isK z) {o k len : Nat} (hI : kn_I σ m o k len) (hQ : Q (.inl (some (.int (-5000001)))) σ τ z) : kn_Ev X ML_quietAfter [.ref 0, .int 600, .int (-1), .int 90] σ τ z 2 12 Q :=
  m_L_quietAfter hK (fun Q6 h6 => m_X6_quietAfter (c := 1) (n := 6) hK hI (fun hx => absurd (by decide) hx) (fun _ => h6 _ _ _ _ ⟨rfl, -5000001, List.mem_cons_self, hQ⟩))
theorem cx_lowestOctane (hK : kn_isK z) {o k len : Nat} (hI : kn_I σ m o k len) (hQ : Q (.inl (some (.int (-5000001)))) σ τ z) : kn_Ev X ML_lowestOctane [.ref 0, .int 600, .int 0, .int 200] σ τ z 2 12 Q :=
  m_L_lowestOctane hK (fun Q6 h6 => m_X6_lowestOctane (c := 1) (n := 6) hK hI (fun _ _ _ hx => absurd (by decide) hx) (fun _ => h6 _ _ _ _ ⟨rfl, -5000001, List.mem_cons_self, hQ⟩))
theorem cx_append (hK : kn_isK z) (hQ : Q (.inl (some (.int (-5000001)))) σ τ z) : kn_Ev X ML_append [.ref 0, .int 200] σ τ z 2 12 Q :=
  m_L_append hK (fun Q6 h6 => m_X6_append (c := 0) (n := 0) hK (fun hx => absurd (by decide) hx) (fun _ => h6 _ _ _ _ ⟨rfl, -5000001, List.mem_cons_self, hQ⟩) (fun hx => absurd (by decide) hx))
theorem cx_undo (hK : kn_isK z) {o len : Nat} (hI : kn_I σ m o 0 len) (hQ : Q (.inl (some (.int (-5000002)))) σ τ z) : kn_Ev X ML_undo [.ref 0] σ τ z 2 12 Q := by
  have e : σ 41 2 ≤ 0 := by rw [hI.2.1.2.2.1]; exact nI_le (Nat.le_refl 0) (by decide)
  exact m_L_undo hK (fun Q6 h6 => m_X6_undo (c := 1) (n := 6) hK hI (fun hx => absurd e hx) (fun _ => h6 _ _ _ _ ⟨rfl, -5000002, List.mem_cons_self, hQ⟩))
end CX
