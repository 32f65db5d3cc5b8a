-- a firing's answer and the bound; begun anew
theorem kw_t4J {t : kn_S} {m fi cl : Nat} {e : Int32} (hI : kr_I (t 129) m fi fi) (h : kw_J (t 129) m fi) (hfi : fi + 1 < 2 ^ 31) (hcl : cl < 24) : ∃ K, kw_J0 (kg_t4 (kg_t3 t cl e) (kg_cc t m) cl e 129) (fi + 1) K := by
  obtain ⟨h0, hS⟩ := h
  have hm2 : 2 ≤ m ∧ m ≤ 8 := hI.1.2
  have e9 : t 129 9 = nI fi := hI.2.1
  have hlea : ∀ c, c < 24 → kr_le (t 129 (49 + c)) 100 := hI.2.2.2.2.2.2.1
  have hcc : kg_cc t m < m := Nat.mod_lt _ (by omega)
  obtain ⟨a1, a2⟩ := kw_t3 (cl := cl) e h0 hS e9 hI.2.2.1.2 hfi hcl
  have f9 : kg_t3 t cl e 129 9 = nI fi := (kw_t3_o cl e (by decide) (by omega)).trans e9
  have fl : kr_le (kg_t3 t cl e 129 (49 + cl)) 100 := by rw [kw_t3_o cl e (by omega) (by omega)]; exact hlea cl hcl
  unfold kg_t4
  split
  · exact ⟨_, kw_re a1 (by omega)⟩
  · exact ⟨_, kw_kn a1 f9 (by omega) fl⟩
theorem kw_cc {g : Nat → Int32} {m fi : Nat} (hI : kr_I g m fi fi) (hfi : fi < 2 ^ 31) : kg_cc (kx g) m = fi % m := by
  unfold kg_cc
  rw [kx_129, hI.2.1, nI_clamp hfi]
theorem kw_ta {g : Nat → Int32} {m fi cl : Nat} {e : Int32} (hI : kr_I g m fi fi) (hfi : fi < 2 ^ 31) : kg_ta (kx g) m cl e = 2 ∨ kg_ta (kx g) m cl e = (if e ≤ kw_cyl g (fi % m) 3 then 0 else 1) := by
  have hm := hI.1.2
  have hc : fi % m < 8 := Nat.lt_of_lt_of_le (Nat.mod_lt _ (by omega)) hm.2
  have et : kg_thr (kg_t3 (kx g) cl e) (fi % m) = kw_cyl g (fi % m) 3 := by
    show _ = kg_thr (kx g) (fi % m)
    unfold kg_thr
    rw [kw_t3_o cl e (by omega) (by omega), kw_t3_o cl e (by omega) (by omega)]
  unfold kg_ta kg_ti
  rw [kw_cc hI hfi, et]
  by_cases q : kg_t3 (kx g) cl e 129 12 = 0
  · rw [if_pos q]; exact Or.inr rfl
  · rw [if_neg q]; exact Or.inl rfl
theorem kw_heard {g : Nat → Int32} {m fi cl S : Nat} {e : Int32} (hI : kr_I g m fi fi) (hJ : kw_J g m fi) (hfi : fi + 1 < 2 ^ 31) (hcl : cl < 24) (h2 : ¬ kg_ta (kx g) m cl e = 2) (h4 : g 4 = nI S) (hS : S ≤ 200) : kw_sp (kw_T g m cl e) m S := by
  have hm := hI.1.2
  have h12 : kg_t3 (kx g) cl e 129 12 = 0 := by
    refine Classical.byContradiction fun w => h2 ?_
    unfold kg_ta kg_ti
    rw [if_neg w]
  obtain ⟨K, hK⟩ := kw_t4J (t := kx g) (e := e) (by rw [kx_129]; exact hI) (by rw [kx_129]; exact hJ) hfi hcl
  unfold kw_T kg_tr
  refine kw_spread hK hm.2 hcl ?_ hS h12
  rw [kw_t4_o (by have := Nat.mod_lt (kx g 129 9).toNatClampNeg (show 0 < m by omega); unfold kg_cc; omega) (by decide), kw_t3_o cl e (by decide) (by omega), kx_129]
  exact h4
theorem kw_T_o {g : Nat → Int32} {m fi cl j : Nat} {e : Int32} (hI : kr_I g m fi fi) (hj : j < 8) : kw_T g m cl e j = g j := by
  have hm := hI.1.2
  have hcc : kg_cc (kx g) m < 8 := by have := Nat.mod_lt (kx g 129 9).toNatClampNeg (show 0 < m by omega); unfold kg_cc; omega
  have e3 : kg_t3 (kx g) cl e 129 j = g j := by rw [kw_t3_o cl e (by omega) (by omega), kx_129]
  unfold kw_T kg_tr kg_tr2
  split
  · unfold kg_t6 
    rw [kn_upk (by omega), kw_t5_o hm.2 (by omega) (by omega)]
    unfold kg_evens
    rw [kg_ev_o _ _ m hm.2 (by omega), kw_t4_o hcc (by omega)]
    exact e3
  · unfold kg_t6
    rw [kn_upk (by omega)]
    exact e3
theorem kw_lo31 {a b : Nat} (ha : a < 2 ^ 31) (hb : b < 2 ^ 31) (h : nI a ≤ nI b) : a ≤ b := (nI_leI ha hb).mp h
section CN
variable {X : kn_X} {z : kn_Z} {σ : kn_S} {τ : kn_T} {m fi : Nat} {g : Nat → Int32} {Q : kn_Q}
theorem cw_rate0 (hK : kn_isK z) (h : kr_R σ 1 g m 0) (hQ : Q (.inl (some (.int 0))) σ τ z) : kn_Ev X MX6_rateBits [.ref 0] σ τ z 0 0 Q := by
  have hm := h.1.2.2.1
  have n0 : ¬ 0 < σ 1 13 := by rw [h.1.1.fir.trans h.1.2.2.2.1]; decide
  exact m_X6_rateBits hK (h.1.1.cyl.trans hm.1) ⟨by omega, hm.2.2⟩ fq_mul2 fq_sub1 (fun w => absurd w n0) (fun _ => hQ) (fun w => absurd w n0)
theorem cw_oct100 (hK : kn_isK z) (h : kr_R σ 1 g m fi) (h0 : ∀ j, j < 24 → g (49 + j) = 0) (hQ : Q (.inl (some (.double 4636737291354636288))) σ τ z) : kn_Ev X ML_octane [.ref 0, .int 0] σ τ z 2 12 Q := by
  refine m_L_octane hK (fun Q6 h6 => m_X6_octane (c := 1) (n := 6) hK (kr_octF _ _) (fun hx => h6 _ _ _ _ ⟨rfl, ?_⟩) (fun hx => absurd hx (by decide)))
  have key : ∀ j, j ≤ 6 → kf_oct (σ 13) 0 j = (0, 0) := by
    intro j
    induction j with
    | zero => intro _; rfl
    | succ j ih =>
      intro hj
      unfold kf_oct
      have e : kf_at (σ 13) 24 (4 * nI j + 0) = 0 := by
        rw [Int32.add_zero, show (4 : Int32) = nI 4 from rfl, pk_mul, kf_at_nI (by decide) (by omega), show σ 13 (4 * j) = g (49 + 4 * j) from h.1.1.lea (by omega)]
        exact h0 _ (by omega)
      rw [e, if_pos (by decide), ih (by omega)]
  show Q (.inl (some (.double (kf_octR (kf_oct (σ 13) 0 6))))) σ τ z
  rw [key 6 (Nat.le_refl _)]
  exact hQ
theorem kw_unf0 (h : kr_I g m fi fi) (h0 : ∀ c, c < 8 → g (17 + c) = 0) : kw_unf g m = 0 := by
  have hf : ∀ c, c < 8 → kr_le (g (17 + c)) 200 := fun c hc => ⟨0, by omega, h0 c hc⟩
  have h1 := kw_unfS (S := 0) h hf ⟨0, by omega, fun c hc => by rw [h0 c (by have := h.1.2; omega), show (0 : Int32).toInt = 0 by decide]; omega⟩
  have h2 := (kw_unfI h hf).i (by decide)
  exact Int32.toInt_inj.mp (by rw [show (0 : Int32).toInt = 0 by decide]; omega)
end CN
