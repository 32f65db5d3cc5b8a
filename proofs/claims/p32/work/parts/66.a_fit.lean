-- what holds of every row: the small facts of the law's checks
theorem kw_ge0 {v : Int32} {N : Nat} (h : kr_le v N) (hN : N < 2 ^ 31) : ¬ v < 0 := by
  obtain ⟨j, hj, rfl⟩ := h
  exact nI_pos (by omega)
theorem kw_leN {v : Int32} {N : Nat} (h : kr_le v N) (hN : N < 2 ^ 31) : ¬ nI N < v := by
  obtain ⟨j, hj, rfl⟩ := h
  exact nI_nlt hj hN
theorem kw_op {sp lo : Nat} (h1 : 500 ≤ sp) (h2 : sp ≤ 7000) (h3 : lo ≤ 100) : ¬ kf_isOp (nI sp) (nI lo) = 0 := by
  unfold kf_isOp kf_and
  have e1 : ¬ kf_within (nI sp) 500 7000 = 0 := by
    unfold kf_within
    rw [if_neg (show ¬ nI sp < 500 from nI_nlt (b := 500) h1 (by omega)), if_neg (show ¬ (7000 : Int32) < nI sp from nI_nlt (a := 7000) h2 (by decide))]
    decide
  rw [if_neg e1, if_neg (show ¬ kf_within (nI lo) 0 100 = 0 from kr_inN (N := 100) h3 (by decide))]
  decide
theorem kw_drvOk {x y : Int32} {oc : Nat} (ho : ¬ kf_isOp x y = 0) (h1 : 80 ≤ oc) (h2 : oc ≤ 110) : ¬ kf_isDrv x y (nI oc) = 0 := by
  unfold kf_isDrv kf_and
  rw [if_neg ho, if_neg (kr_oct80 h1 h2)]
  decide
theorem kw_klim8 (x y : Int32) : kf_klim x y 91 - kf_klim x y 90 = 8 := by
  unfold kf_klim
  generalize 150 + x / 60 - y * 3 / 2 = A
  have e : A + (91 - 95) * 8 = 8 + (A + (90 - 95) * 8) := by
    rw [← Int32.add_assoc, Int32.add_comm 8 A, Int32.add_assoc]
    exact congrArg (A + ·) (by decide)
  rw [e]
  exact Int32.add_sub_cancel _ _
theorem kw_thr50 {g : Nat → Int32} {m fi c : Nat} (hI : kr_I g m fi fi) (hc : c < 8) : ¬ kw_cyl g c 3 < 50 := by
  obtain ⟨j, e, hj⟩ := kr_thrE (t := kx g) (by rw [kx_129]; exact hI) hc
  show ¬ kg_thr (kx g) c < 50
  rw [e]
  exact nI_nlt (b := 50) (by omega) (by omega)
theorem kw_retI {g : Nat → Int32} {m fi F K c cl : Nat} (hI : kr_I g m fi fi) (hJ : kw_J0 g F K) (hc : c < 8) (hcl : cl < 24) : ¬ kg_ret (kx g) c cl < 0 ∧ ¬ kw_val g m 3 < kg_ret (kx g) c cl := by
  obtain ⟨lm, elm, l1, l2⟩ := kw_set hJ (k := 3) (by decide)
  obtain ⟨f7, e7, f1, f2⟩ := kw_set hJ (k := 7) (by decide)
  have a3 : (kn_least 3).toInt = 20 ∧ (kn_most 3).toInt = 200 := by decide
  have a7 : (kn_least 7).toInt = 0 ∧ (kn_most 7).toInt = 100 := by decide
  have i1 := hJ.2.1 c hc
  have i3 := hI.2.2.2.2.2.2.1 cl hcl
  have i5 : kr_le (if g 12 = 1 then g 7 else g (17 + c)) 200 := by
    split
    · exact ⟨f7, by omega, e7⟩
    · exact i1
  have i6 := kr_addI i5 i3 (by decide) (by decide)
  have i7 := i5.i (by decide)
  have i8 := i3.i (by decide)
  have e3 : (g 3).toInt = lm := by rw [elm, nI_toInt (by omega)]
  have z0 : (0 : Int32).toInt = 0 := by decide
  refine ⟨?_, ?_⟩
  · rw [Int32.lt_iff_toInt_lt, z0]
    unfold kg_ret
    rw [kx_129, kf_min_i]
    omega
  · show ¬ g 3 < _
    rw [Int32.lt_iff_toInt_lt]
    unfold kg_ret
    rw [kx_129, kf_min_i]
    omega
theorem kw_ksE {g : Nat → Int32} {m : Nat} (hm : m ≤ 8) {kn : Nat → Nat} (hk : ∀ d, d < 8 → g (41 + d) = nI (kn d)) {B : Nat} (hs : kr_sum kn m ≤ B) (hB : B + 1 < 2 ^ 31) (h0 : 0 < m) : kw_ks g m = kr_sum kn m := (kw_ksU h0 hm hk hs hB).2
theorem kw_evoE {g : Nat → Int32} {lc : Nat} {kd : Nat → Nat} (h : ∀ i, i < lc → g (74 + 3 * i) = nI (kd i) ∧ kd i ≤ 4) {x : Nat} (hx : x ≤ 4) : ∀ j, j ≤ lc → kw_evo g (nI x) j = nI (kw_cnt kd x j)
  | 0, _ => rfl
  | j + 1, hj => by
    obtain ⟨e, h4⟩ := h j (by omega)
    unfold kw_evo
    rw [e, kw_evoE h hx j (by omega), kw_cnt_s]
    by_cases q : kd j = x
    · rw [if_pos (by rw [q]), if_pos q, nI_1]
    · rw [if_neg (fun w => q ((nI_eq (by omega) (by omega)).mp w)), if_neg q]; rfl
theorem kw_cntSum {kd : Nat → Nat} {lc : Nat} (h : ∀ i, i < lc → kd i ≤ 4) : kr_sum (fun k => kw_cnt kd k lc) 5 = lc := by
  show 0 + kw_cnt kd 0 lc + kw_cnt kd 1 lc + kw_cnt kd 2 lc + kw_cnt kd 3 lc + kw_cnt kd 4 lc = lc
  have := kw_cnt_all lc h
  omega
theorem kw_cntSumL {kd : Nat → Nat} {lc : Nat} : ∀ k, kr_sum (fun k => kw_cnt kd k lc) k ≤ k * lc
  | 0 => Nat.zero_le _
  | k + 1 => by
    have h1 := kw_cntSumL (kd := kd) (lc := lc) k
    have h2 := kw_cnt_le kd k lc
    show kr_sum _ k + kw_cnt kd k lc ≤ _
    rw [Nat.succ_mul]
    omega
section CE
variable {X : kn_X} {z : kn_Z} {σ : kn_S} {τ : kn_T} {m fi : Nat} {g : Nat → Int32} {Q : kn_Q}
theorem cw_extR {r : Nat} (hK : kn_isK z) (h : kr_R σ 1 g m fi) (hr : r ≤ 5) (hQ : ∀ e : Int32, (∀ j, j ≤ 3 → (g (49 + (4 * r + j))).toInt ≤ e.toInt) → Q (.inl (some (.int e))) σ τ z) : kn_Ev X ML_extreme [.ref 0, .int (nI r), .int 1, .int 1] σ τ z 2 12 Q := by
  refine m_L_extreme hK (fun Q6 h6 => m_X6_extreme_r (c := 1) (n := 6) hK (by decide) (fun hx => h6 _ _ _ _ ⟨rfl, hQ _ ?_⟩) (fun hx => absurd hx (kr_inN (N := 5) hr (by decide))))
  have key : ∀ i, i ≤ 3 → ∀ j, j ≤ i → (g (49 + (4 * r + j))).toInt ≤ (kf_ext (σ 13) (4 * nI r) 1 1 i).toInt := by
    intro i
    induction i with
    | zero =>
      intro _ j hj
      obtain rfl : j = 0 := by omega
      show _ ≤ (kf_at (σ 13) 24 (4 * nI r)).toInt
      rw [show (4 : Int32) = nI 4 from rfl, pk_mul, kf_at_nI (by decide) (by omega), show σ 13 (4 * r) = g (49 + 4 * r) from h.1.1.lea (by omega)]
      exact Int.le_refl _
    | succ i ih =>
      intro hi j hj
      show _ ≤ (kf_max (kf_ext (σ 13) (4 * nI r) 1 1 i) (kf_at (σ 13) 24 (4 * nI r + nI (i + 1) * 1))).toInt
      rw [kf_max_i]
      by_cases q : j ≤ i
      · have := ih (by omega) j q
        omega
      · obtain rfl : j = i + 1 := by omega
        rw [Int32.mul_one, show (4 : Int32) = nI 4 from rfl, pk_mul, nI_add, kf_at_nI (by decide) (by omega), show σ 13 (4 * r + (i + 1)) = g (49 + (4 * r + (i + 1))) from h.1.1.lea (by omega)]
        omega
  exact fun j hj => key 3 (by omega) j hj
theorem cw_extC {r : Nat} (hK : kn_isK z) (h : kr_R σ 1 g m fi) (hr : r ≤ 3) (hQ : ∀ e : Int32, (∀ j, j ≤ 5 → e.toInt ≤ (g (49 + (4 * j + r))).toInt) → Q (.inl (some (.int e))) σ τ z) : kn_Ev X ML_extreme [.ref 0, .int (nI r), .int 0, .int 0] σ τ z 2 12 Q := by
  refine m_L_extreme hK (fun Q6 h6 => m_X6_extreme_c (c := 1) (n := 6) hK rfl (fun hx => h6 _ _ _ _ ⟨rfl, hQ _ ?_⟩) (fun hx => absurd hx (kr_inN (N := 3) hr (by decide))))
  have key : ∀ i, i ≤ 5 → ∀ j, j ≤ i → (kf_ext (σ 13) (nI r) 4 0 i).toInt ≤ (g (49 + (4 * j + r))).toInt := by
    intro i
    induction i with
    | zero =>
      intro _ j hj
      obtain rfl : j = 0 := by omega
      show (kf_at (σ 13) 24 (nI r)).toInt ≤ _
      rw [kf_at_nI (by decide) (by omega), show σ 13 r = g (49 + r) from h.1.1.lea (by omega)]
      rw [show 49 + (4 * 0 + r) = 49 + r by omega]
      exact Int.le_refl _
    | succ i ih =>
      intro hi j hj
      show (kf_min (kf_ext (σ 13) (nI r) 4 0 i) (kf_at (σ 13) 24 (nI r + nI (i + 1) * 4))).toInt ≤ _
      rw [kf_min_i]
      by_cases q : j ≤ i
      · have := ih (by omega) j q
        omega
      · obtain rfl : j = i + 1 := by omega
        rw [show (4 : Int32) = nI 4 from rfl, pk_mul, nI_add, kf_at_nI (by decide) (by omega), show r + (i + 1) * 4 = 4 * (i + 1) + r by omega, show σ 13 (4 * (i + 1) + r) = g (49 + (4 * (i + 1) + r)) from h.1.1.lea (by omega)]
        omega
  exact fun j hj => key 5 (by omega) j hj
end CE
