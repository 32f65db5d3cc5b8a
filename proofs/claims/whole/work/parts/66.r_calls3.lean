-- extremes, the octane number, the rate, the text's bytes, what is taken back
theorem kr_exRun {s : kn_S} {g : Nat → Int32} {x v a : Int32} : ∀ d p, (∀ j, p ≤ j → j < p + d → ¬ g j = x) → kg_exf s g x v a (p + d) = kg_exf s g x v a p
  | 0, _, _ => rfl
  | d + 1, p, h => by
    show (if g (p + d) = x then _ else kg_exf s g x v a (p + d)) = _
    rw [if_neg (h (p + d) (by omega) (by omega)), kr_exRun d p (fun j h1 h2 => h j h1 (by omega))]
theorem kr_exHit {s : kn_S} {g : Nat → Int32} {x v a : Int32} {j : Nat} (h : g j = x) : kg_exf s g x v a (j + 1) = if v = 0 then kf_min (kg_exf s g x v a j) (s 129 (49 + j)) else kf_max (kg_exf s g x v a j) (s 129 (49 + j)) := by
  show (if g j = x then _ else _) = _
  rw [if_pos h, kr_maxE]
theorem kr_exSelf (v a : Int32) : (if v = 0 then kf_min a a else kf_max a a) = a := by
  have e1 : kf_min a a = a := Int32.toInt_inj.mp (by rw [kf_min_i]; omega)
  have e2 : kf_max a a = a := Int32.toInt_inj.mp (by rw [kf_max_i]; omega)
  rw [e1, e2]
  split <;> rfl
section KRE
variable {σ : kn_S} {m fi : Nat}
theorem kr_extC (hA : kr_A σ 1 (σ 129)) {k : Nat} (hk : k ≤ 3) (v : Int32) : kg_exf (kn_up σ 128 4 0) (fun j => nI j - nI j / 4 * 4) (nI k) v (σ 129 (49 + k)) 24 = kf_ext (σ 13) (nI k) 4 v 5 := by
  have hg : ∀ j : Nat, j < 1000 → (nI j - nI j / 4 * 4 = nI k ↔ j % 4 = k) := fun j hj => by
    rw [show nI j - nI j / 4 * 4 = nI (j % 4) from kn_rem rfl (by omega) (by omega) (by omega) rfl]
    exact nI_eq (by omega) (by omega)
  have key : ∀ i, i ≤ 5 → kg_exf (kn_up σ 128 4 0) (fun j => nI j - nI j / 4 * 4) (nI k) v (σ 129 (49 + k)) (k + 4 * i + 1) = kf_ext (σ 13) (nI k) 4 v i := by
    intro i
    induction i with
    | zero =>
      intro _
      show kg_exf _ _ _ _ _ (k + 1) = kf_at (σ 13) 24 (nI k)
      have hr := kr_exRun (s := kn_up σ 128 4 0) (g := fun j => nI j - nI j / 4 * 4) (x := nI k) (v := v) (a := σ 129 (49 + k)) k 0 (fun j h1 h2 q => by have := (hg j (by omega)).mp q; omega)
      rw [Nat.zero_add] at hr
      rw [kr_exHit ((hg k (by omega)).mpr (by omega)), hr, kr_u129, kf_at_nI (by decide) (by omega)]
      show (if v = 0 then kf_min (σ 129 (49 + k)) (σ 129 (49 + k)) else kf_max (σ 129 (49 + k)) (σ 129 (49 + k))) = _
      rw [kr_exSelf]
      exact (hA.lea (by omega)).symm
    | succ i ih =>
      intro hi
      have ih := ih (by omega)
      have hr := kr_exRun (s := kn_up σ 128 4 0) (g := fun j => nI j - nI j / 4 * 4) (x := nI k) (v := v) (a := σ 129 (49 + k)) 3 (k + 4 * i + 1) (fun j h1 h2 q => by have := (hg j (by omega)).mp q; omega)
      rw [show k + 4 * (i + 1) + 1 = (k + 4 * i + 1 + 3) + 1 by omega, kr_exHit ((hg _ (by omega)).mpr (by omega)), hr, ih, kr_u129]
      show _ = if v = 0 then kf_min (kf_ext (σ 13) (nI k) 4 v i) (kf_at (σ 13) 24 (nI k + nI (i + 1) * 4)) else kf_max (kf_ext (σ 13) (nI k) 4 v i) (kf_at (σ 13) 24 (nI k + nI (i + 1) * 4))
      rw [show (4 : Int32) = nI 4 from rfl, pk_mul, nI_add, kf_at_nI (by decide) (by omega), show k + (i + 1) * 4 = k + 4 * i + 1 + 3 by omega, ← hA.lea (by omega)]
  have h5 := key 5 (by omega)
  have hr := kr_exRun (s := kn_up σ 128 4 0) (g := fun j => nI j - nI j / 4 * 4) (x := nI k) (v := v) (a := σ 129 (49 + k)) (3 - k) (k + 4 * 5 + 1) (fun j h1 h2 q => by have := (hg j (by omega)).mp q; omega)
  rw [show k + 4 * 5 + 1 + (3 - k) = 24 by omega] at hr
  rw [hr, h5]
theorem kr_extR (hA : kr_A σ 1 (σ 129)) {k : Nat} (hk : k ≤ 5) (v : Int32) : kg_exf (kn_up σ 128 4 0) (fun j => nI j / 4) (nI k) v (σ 129 (49 + 4 * k)) 24 = kf_ext (σ 13) (4 * nI k) 1 v 3 := by
  have hg : ∀ j : Nat, j < 1000 → (nI j / 4 = nI k ↔ j / 4 = k) := fun j hj => by
    rw [show nI j / 4 = nI (j / 4) from pk_div (by omega) (by decide) (by decide)]
    exact nI_eq (by omega) (by omega)
  have e4 : (4 : Int32) * nI k = nI (4 * k) := pk_mul 4 k
  have key : ∀ i, i ≤ 3 → kg_exf (kn_up σ 128 4 0) (fun j => nI j / 4) (nI k) v (σ 129 (49 + 4 * k)) (4 * k + i + 1) = kf_ext (σ 13) (4 * nI k) 1 v i := by
    intro i
    induction i with
    | zero =>
      intro _
      show kg_exf _ _ _ _ _ (4 * k + 1) = kf_at (σ 13) 24 (4 * nI k)
      have hr := kr_exRun (s := kn_up σ 128 4 0) (g := fun j => nI j / 4) (x := nI k) (v := v) (a := σ 129 (49 + 4 * k)) (4 * k) 0 (fun j h1 h2 q => by have := (hg j (by omega)).mp q; omega)
      rw [Nat.zero_add] at hr
      rw [kr_exHit ((hg _ (by omega)).mpr (by omega)), hr, kr_u129, e4, kf_at_nI (by decide) (by omega)]
      show (if v = 0 then kf_min (σ 129 (49 + 4 * k)) (σ 129 (49 + 4 * k)) else kf_max (σ 129 (49 + 4 * k)) (σ 129 (49 + 4 * k))) = _
      rw [kr_exSelf]
      exact (hA.lea (by omega)).symm
    | succ i ih =>
      intro hi
      have ih := ih (by omega)
      rw [show 4 * k + (i + 1) + 1 = (4 * k + i + 1) + 1 by omega, kr_exHit ((hg _ (by omega)).mpr (by omega)), ih, kr_u129]
      show _ = if v = 0 then kf_min (kf_ext (σ 13) (4 * nI k) 1 v i) (kf_at (σ 13) 24 (4 * nI k + nI (i + 1) * 1)) else kf_max (kf_ext (σ 13) (4 * nI k) 1 v i) (kf_at (σ 13) 24 (4 * nI k + nI (i + 1) * 1))
      rw [Int32.mul_one, e4, nI_add, kf_at_nI (by decide) (by omega), show 4 * k + (i + 1) = 4 * k + i + 1 by omega, ← hA.lea (by omega)]
  have h5 := key 3 (by omega)
  have hr := kr_exRun (s := kn_up σ 128 4 0) (g := fun j => nI j / 4) (x := nI k) (v := v) (a := σ 129 (49 + 4 * k)) (20 - 4 * k) (4 * k + 3 + 1) (fun j h1 h2 q => by have := (hg j (by omega)).mp q; omega)
  rw [show 4 * k + 3 + 1 + (20 - 4 * k) = 24 by omega] at hr
  rw [hr, h5]
theorem kr_oct (hA : kr_A σ 1 (σ 129)) (hI : kr_I (σ 129) m fi fi) {k : Nat} (hk : k ≤ 3) : ∀ j, j ≤ 6 → kg_oc (kn_up σ 128 4 0) k j = kf_oct (σ 13) (nI k) j ∧ ∃ q : Nat, q ≤ j ∧ (kf_oct (σ 13) (nI k) j).2 = nI q
  | 0, _ => ⟨rfl, 0, Nat.le_refl _, rfl⟩
  | j + 1, hj => by
    obtain ⟨h1, q, hq, h2⟩ := kr_oct hA hI hk j (by omega)
    have ea : kf_at (σ 13) 24 (4 * nI j + nI k) = σ 129 (49 + 4 * j + k) := by
      rw [show (4 : Int32) = nI 4 from rfl, pk_mul, nI_add, kf_at_nI (by decide) (by omega), Nat.add_assoc 49]
      exact hA.lea (by omega)
    obtain ⟨l, hl, el⟩ := hI.2.2.2.2.2.2.1 (4 * j + k) (by omega)
    rw [← Nat.add_assoc 49] at el
    unfold kg_oc kf_oct
    rw [ea, h1, kr_u129]
    by_cases w : σ 129 (49 + 4 * j + k) ≤ 0
    · rw [if_pos w, if_pos w]
      have e0 : σ 129 (49 + 4 * j + k) = 0 := by
        rw [el] at w ⊢
        cases l with
        | zero => rfl
        | succ l => exact absurd w (nI_nle (by omega) (by omega))
      rw [e0, Int32.add_zero, Int32.add_zero]
      exact ⟨rfl, q, by omega, h2⟩
    · rw [if_neg w, if_neg w]
      refine ⟨rfl, q + 1, by omega, ?_⟩
      show (kf_oct (σ 13) (nI k) j).2 + 1 = nI (q + 1)
      rw [h2, nI_1]
theorem kr_octN (f : Nat → Int32) (x : Int32) : ∀ j, ∃ q : Nat, q ≤ j ∧ (kf_oct f x j).2 = nI q
  | 0 => ⟨0, Nat.le_refl _, rfl⟩
  | j + 1 => by
    obtain ⟨q, hq, e⟩ := kr_octN f x j
    unfold kf_oct
    split
    · exact ⟨q, by omega, e⟩
    · exact ⟨q + 1, by omega, by show (kf_oct f x j).2 + 1 = nI (q + 1); rw [e, nI_1]⟩
theorem kr_octF (f : Nat → Int32) (x : Int32) (w : ¬ (kf_oct f x 6).2 ≤ 0) : vf_n64 (FP.ddiv (FP.i2d (kf_oct f x 6).1) (FP.i2d (kf_oct f x 6).2)) ∧ vf_n64 (FP.ddiv (FP.ddiv (FP.i2d (kf_oct f x 6).1) (FP.i2d (kf_oct f x 6).2)) 4611686018427387904) ∧ vf_n64 (FP.dsub 4636737291354636288 (FP.ddiv (FP.ddiv (FP.i2d (kf_oct f x 6).1) (FP.i2d (kf_oct f x 6).2)) 4611686018427387904)) := by
  obtain ⟨q, hq, e⟩ := kr_octN f x 6
  rw [e] at w ⊢
  have q0 : 1 ≤ q := by
    rcases Nat.eq_zero_or_pos q with w2 | w2
    · rw [w2] at w
      exact absurd (nI_le (Nat.le_refl 0) (by decide)) w
    · exact w2
  exact fd_oct _ q0 hq
theorem kr_ksum (hA : kr_A σ 1 (σ 129)) {kn : Nat → Nat} (hk : ∀ c, c < 8 → σ 129 (41 + c) = nI (kn c)) : ∀ j, j ≤ 8 → kf_fold (σ 11) kf_add 0 j = nI (kr_sum kn j) ∧ kg_sum (kn_up σ 128 4 0) 41 j = nI (kr_sum kn j)
  | 0, _ => ⟨rfl, rfl⟩
  | j + 1, hj => by
    obtain ⟨h1, h2⟩ := kr_ksum hA hk j (by omega)
    refine ⟨?_, ?_⟩
    · show kf_fold (σ 11) kf_add 0 j + σ 11 j = nI (kr_sum kn j + kn j)
      rw [h1, hA.kno (by omega), hk j (by omega), nI_add]
    · show kg_sum (kn_up σ 128 4 0) 41 j + kn_up σ 128 4 0 129 (41 + j) = nI (kr_sum kn j + kn j)
      rw [h2, kr_u129, hk j (by omega), nI_add]
end KRE
/-- the octane number's call -/
def kr_md (X : kn_X) (z : kn_Z) (M : kn_M) (args : List Value) (B : Nat) (κ : Int32) (v : UInt64) (σ1 : kn_S) (τ1 : kn_T) : Prop :=
  ∀ Q2 : kn_Q, (∀ (b : UInt64) (σ2 : kn_S), σ2 128 4 = κ → (κ = 0 → b = v ∧ Op.cmpValue (FP.dcmp v v) .l = 0) → kr_Ws σ2 B → Q2 (.inl (some (.double b))) σ2 τ1 z) → kn_Ev X M args σ1 τ1 z 0 0 Q2
def kr_cd (X : kn_X) (z : kn_Z) (σ : kn_S) (τ : kn_T) (M : kn_M) (args : List Value) (M2 : kn_M) (args2 : List Value) (B : Nat) : Prop :=
  ∀ Q : kn_Q, (∀ (κ : Int32) (v : UInt64) (σ1 : kn_S) (τ1 : kn_T), (κ = 0 → τ1 134 0 = v.toInt64) → kr_md X z M2 args2 B κ v σ1 τ1 → Q (.inl (some (.int κ))) σ1 τ1 z) → kn_Ev X M args σ τ z 2 12 Q
theorem fd_self {v : UInt64} (h : vf_n64 v) : Op.cmpValue (FP.dcmp v v) .l = 0 := by
  rw [show FP.dcmp v v = some .eq from fr_self (fd_dec h)]
  rfl
section KRCS
variable {X : kn_X} {z : kn_Z} {σ : kn_S} {τ : kn_T} {B m fi o k len : Nat}
theorem cs_extreme (x w v : Int32) (hV : kr_V z) (W : kr_Ws σ B) : kr_cs X z σ τ ML_extreme [.ref 0, .int x, .int w, .int v, .ref 133] MX7_extreme [.ref 128, .int x, .int w, .int v] (B + 1000) := by
  intro Q hQ
  obtain ⟨m, fi, o, k, len, hW⟩ := W
  by_cases hw : w = 0
  · refine m_L_extreme hV.1 hV.2.2.1 (fun Q6 h6 => m_X6_extreme_c hV.1 hw (fun hx => h6 _ _ _ _ ⟨rfl, hQ 0 _ _ _ (fun _ => kr_ut τ 133 _) ?_⟩) (fun hx => h6 _ _ _ _ ⟨rfl, 1, List.mem_cons_self, hQ 1 0 _ _ (fun q => absurd q (by decide)) ?_⟩))
    · intro Q2 h2
      exact m_m_X7_extreme_c hV.2.1 hw (fun j hj h3 => h2 _ _ (kr_u4 _ _) (fun _ => by rw [hj, kr_extC hW.1.1.1 h3]) (kr_W4 ⟨m, fi, o, k, len, hW⟩ 0)) (fun h => absurd h hx)
    · intro Q2 h2
      exact m_m_X7_extreme_c hV.2.1 hw (fun j hj h3 => absurd (by rw [hj] at hx; exact hx) (kr_inN (N := 3) h3 (by decide))) (fun _ => h2 _ _ (kr_u4 _ _) (fun q => absurd q (by decide)) (kr_W4 ⟨m, fi, o, k, len, hW⟩ 1))
  · refine m_L_extreme hV.1 hV.2.2.1 (fun Q6 h6 => m_X6_extreme_r hV.1 hw (fun hx => h6 _ _ _ _ ⟨rfl, hQ 0 _ _ _ (fun _ => kr_ut τ 133 _) ?_⟩) (fun hx => h6 _ _ _ _ ⟨rfl, 1, List.mem_cons_self, hQ 1 0 _ _ (fun q => absurd q (by decide)) ?_⟩))
    · intro Q2 h2
      exact m_m_X7_extreme_r hV.2.1 hw (fun j hj h3 => h2 _ _ (kr_u4 _ _) (fun _ => by rw [hj, kr_extR hW.1.1.1 h3]) (kr_W4 ⟨m, fi, o, k, len, hW⟩ 0)) (fun h => absurd h hx)
    · intro Q2 h2
      exact m_m_X7_extreme_r hV.2.1 hw (fun j hj h3 => absurd (by rw [hj] at hx; exact hx) (kr_inN (N := 5) h3 (by decide))) (fun _ => h2 _ _ (kr_u4 _ _) (fun q => absurd q (by decide)) (kr_W4 ⟨m, fi, o, k, len, hW⟩ 1))
theorem cd_octane (x : Int32) (hV : kr_V z) (W : kr_Ws σ B) : kr_cd X z σ τ ML_octane [.ref 0, .int x, .ref 134] MX7_octane [.ref 128, .int x] (B + 1000) := by
  intro Q hQ
  obtain ⟨m, fi, o, k, len, hW⟩ := W
  by_cases hx : kf_within x 0 3 = 0
  · refine m_L_octane hV.1 hV.2.2.2 (fun Q6 h6 => m_X6_octane hV.1 (kr_octF _ _) (fun h => absurd hx h) (fun _ => h6 _ _ _ _ ⟨rfl, 1, List.mem_cons_self, hQ 1 0 _ _ (fun q => absurd q (by decide)) ?_⟩))
    intro Q2 h2
    have hn : ∀ j, x = nI j → j ≤ 3 → False := fun j hj h3 => by
      rw [hj] at hx
      exact kr_inN (N := 3) h3 (by decide) hx
    exact m_X7_octane hV.2.1 (fun j hj h3 => absurd (hn j hj h3) id) (fun j hj h3 => absurd (hn j hj h3) id) (fun _ => h2 _ _ (kr_u4 _ _) (fun q => absurd q (by decide)) (kr_W4 ⟨m, fi, o, k, len, hW⟩ 1))
  · obtain ⟨j, hj3, rfl⟩ := kf_within_nI (n := 3) rfl (by decide) hx
    obtain ⟨e1, q, hq, e2⟩ := kr_oct hW.1.1.1 hW.1.1.2.2 hj3 6 (Nat.le_refl _)
    have hv : vf_n64 (kf_octR (kf_oct (σ 13) (nI j) 6)) := by
      unfold kf_octR
      split
      · unfold vf_n64; decide
      · rename_i w
        have q0 : 1 ≤ q := by
          rcases Nat.eq_zero_or_pos q with w2 | w2
          · rw [e2, w2] at w
            exact absurd (nI_le (Nat.le_refl 0) (by decide)) w
          · exact w2
        rw [e2]
        exact (fd_oct _ q0 hq).2.2
    refine m_L_octane hV.1 hV.2.2.2 (fun Q6 h6 => m_X6_octane hV.1 (kr_octF _ _) (fun _ => h6 _ _ _ _ ⟨rfl, hQ 0 _ _ _ (fun _ => kr_ut τ 134 _) ?_⟩) (fun h => absurd h hx))
    intro Q2 h2
    have hjj : ∀ j', nI j = nI j' → j' ≤ 3 → j' = j := fun j' h1 h2 => ((nI_eq (by omega) (by omega)).mp h1).symm
    refine m_X7_octane hV.2.1 (fun j' hj' h3 w => ?_) (fun j' hj' h3 => h2 _ _ (kr_u4 _ _) (fun _ => ⟨?_, fd_self hv⟩) (kr_W4 ⟨m, fi, o, k, len, hW⟩ 0)) (fun h => absurd h hx)
    · obtain rfl := hjj j' hj' h3
      rw [e1, e2] at w ⊢
      have q0 : 1 ≤ q := by
        rcases Nat.eq_zero_or_pos q with w2 | w2
        · rw [w2] at w; exact absurd rfl w
        · exact w2
      exact fd_oct _ q0 hq
    · obtain rfl := hjj j' hj' h3
      rw [e1]
      unfold kg_ocR kf_octR
      rw [e2]
      by_cases w : q = 0
      · subst w; rfl
      · rw [if_neg (nI_ne0 (by omega) (by omega)), if_neg (nI_nle (by omega) (by omega))]
theorem cn_rateBits (hV : kr_V z) (W : kr_Ws σ B) (hB : B + 1000 < 16777216) : kr_cn X z σ τ MX6_rateBits [.ref 0] MX7_rateBits [.ref 128] (B + 1000) := by
  intro Q hQ
  obtain ⟨m, fi, o, k, len, hW⟩ := W
  obtain ⟨m1, m2, m3⟩ := kr_hm hW
  have hfi := hW.2.1
  obtain ⟨kn, hk1, hk2⟩ := hW.1.1.2.2.2.2.2.2.2.2.2
  obtain ⟨f1, f2⟩ := kr_ksum hW.1.1.1 hk1 m m3
  have e13 : σ 1 13 = nI fi := hW.1.1.1.fir.trans hW.1.1.2.2.2.1
  have e9 : σ 129 9 = nI fi := hW.1.1.2.2.2.1
  have hW4 := kr_W4 ⟨m, fi, o, k, len, hW⟩ 0
  refine m_X6_rateBits hV.1 (hW.1.1.1.cyl.trans m1) ⟨m2, m3⟩ fq_mul2 fq_sub1 (fun h => ?_) (fun h => hQ _ _ (fun Q2 h2 => ?_)) (fun h => hQ _ _ (fun Q2 h2 => ?_))
  · rw [e13] at h
    have q0 : 0 < fi := by
      rcases Nat.eq_zero_or_pos fi with w | w
      · rw [w] at h; exact absurd h (by decide)
      · exact w
    rw [f1, e13]
    exact (fr_rate hk2 q0 (by omega)).1
  · have q0 : fi = 0 := by
      rcases Nat.eq_zero_or_pos fi with w | w
      · exact w
      · exact absurd (by rw [e13]; exact nI_lt (a := 0) w (by omega)) h
    refine m_X7_rateBits hV.2.1 m1 ⟨m2, m3⟩ (fun w => absurd (by rw [e9, q0]; rfl) w) (fun _ => h2 _ hW4) (fun w => absurd (by rw [e9, q0]; rfl) w)
  · rw [e13] at h
    have q0 : 0 < fi := by
      rcases Nat.eq_zero_or_pos fi with w | w
      · rw [w] at h; exact absurd h (by decide)
      · exact w
    have hr := fr_rate hk2 q0 (by omega)
    have n0 : ¬ σ 129 9 = 0 := by rw [e9]; exact nI_ne0 q0 (by omega)
    refine m_X7_rateBits hV.2.1 m1 ⟨m2, m3⟩ (fun _ => ?_) (fun w => absurd w n0) (fun _ => ?_)
    · rw [f2, e9]
      exact ⟨hr.1, fr_nan hr.1⟩
    · rw [f2, e9]
      have := h2 _ hW4
      rw [f1, e13, hr.2] at this
      exact this
theorem cn_clearText (hV : kr_V z) (W : kr_Ws σ B) : kr_cn X z σ τ MX6_clearText [.ref 0] MX7_clearText [.ref 128] (B + 1000) := by
  intro Q hQ
  obtain ⟨m, fi, o, k, len, hW⟩ := W
  obtain ⟨hR, hfi, hH, t1, t2, t3, t4⟩ := hW
  refine m_X6_clearText hV.1 (hQ _ _ (fun Q2 h2 => m_X7_clearText hV.2.1 ?_))
  rw [kn_up_ne σ (i := 123) (j := 128) 2 0 (by decide), t2, ← t1]
  refine h2 _ ⟨m, fi, o, k, 0, ?_⟩
  have hlo : ∀ a, a ≠ 123 → a ≠ 128 → kn_up (kn_up (kn_up σ 123 2 0) 128 4 0) 128 6 0 a = σ a := fun a q1 q2 => by rw [kn_up_ne _ _ _ q2, kn_up_ne _ _ _ q2, kn_up_ne _ _ _ q1]
  have h3 : kn_up (kn_up (kn_up σ 123 2 0) 128 4 0) 128 6 0 128 3 = σ 128 3 := by rw [kn_upk (by decide), kn_upk (by decide), kn_up_ne _ _ _ (by decide)]
  refine ⟨?_, by omega, hH.to (by omega) (fun a q1 q2 => hlo a (by omega) (by omega)) h3 (hlo 130 (by decide) (by decide)), ?_, ?_, by decide, fun i hi => absurd hi (by omega)⟩
  · rw [hlo 129 (by decide) (by decide)]
    exact hR.to fun a q1 q2 => hlo a (by omega) (by omega)
  · rw [kn_up_ne _ _ _ (by decide), kn_up_ne _ _ _ (by decide)]
    exact if_pos ⟨rfl, rfl⟩
  · exact if_pos ⟨rfl, rfl⟩
theorem cs_append (x : Int32) (hV : kr_V z) (W : kr_Ws σ B) : kr_cs X z σ τ ML_append [.ref 0, .int x, .ref 133] MX7_append [.ref 128, .int x] (B + 1000) := by
  intro Q hQ
  obtain ⟨m, fi, o, k, len, hW⟩ := W
  have hW4 := kr_W4 ⟨m, fi, o, k, len, hW⟩
  obtain ⟨hR, hfi, hH, t1, t2, t3, t4⟩ := hW
  refine m_L_append hV.1 hV.2.2.1 (fun Q6 h6 => m_X6_append hV.1 (fun hx hl => h6 _ _ _ _ ⟨rfl, hQ 0 _ _ _ (fun _ => kr_ut τ 133 _) ?_⟩) (fun hx => h6 _ _ _ _ ⟨rfl, 1, List.mem_cons_self, hQ 1 0 _ _ (fun q => absurd q (by decide)) ?_⟩) (fun hx hl => h6 _ _ _ _ ⟨rfl, 2, List.mem_cons_of_mem _ List.mem_cons_self, hQ 2 0 _ _ (fun q => absurd q (by decide)) ?_⟩))
  · intro Q2 h2
    have hl2 : len < 120 := by
      rcases Nat.lt_or_ge len 120 with q | q
      · exact q
      · exact absurd (by rw [t1]; exact nI_le (a := 120) q (by omega)) hl
    have et : kf_tadd σ 123 x = kn_up (kn_up σ 125 len x) 123 2 (nI (len + 1)) := by
      unfold kf_tadd
      rw [if_neg hl, t1, kf_put_nI _ _ (by decide) hl2]
      dsimp only
      rw [kn_up_ne _ _ _ (by decide), t1, nI_1]
    rw [et] at h2 ⊢
    have e6 : kn_up (kn_up σ 125 len x) 123 2 (nI (len + 1)) 128 6 = nI len := by rw [kn_up_ne _ _ _ (by decide), kn_up_ne _ _ _ (by decide), t2]
    refine m_X7_append hV.2.1 e6 t3 (fun _ _ => h2 _ _ ?_ (fun _ => ?_) ⟨m, fi, o, k, len + 1, ?_⟩) (fun h => absurd h hx) (fun _ h => absurd h (by omega))
    · rw [kn_upk (by decide), kn_up_ne _ _ _ (by decide), kr_u4]
    · exact (if_pos ⟨rfl, rfl⟩ : kn_up (kn_up σ 125 len x) 123 2 (nI (len + 1)) 123 2 = nI (len + 1)).symm
    · have hlo : ∀ a, a ≠ 123 → a ≠ 125 → a ≠ 128 → a ≠ 132 → kn_up (kn_up (kn_up (kn_up (kn_up σ 125 len x) 123 2 (nI (len + 1))) 128 4 0) 132 len x) 128 6 (nI (len + 1)) a = σ a := fun a q1 q2 q3 q4 => by
        rw [kn_up_ne _ _ _ q3, kn_up_ne _ _ _ q4, kn_up_ne _ _ _ q3, kn_up_ne _ _ _ q1, kn_up_ne _ _ _ q2]
      refine ⟨?_, by omega, hH.to (by omega) (fun a q1 q2 => hlo a (by omega) (by omega) (by omega) (by omega)) ?_ (hlo 130 (by decide) (by decide) (by decide) (by decide)), ?_, ?_, by omega, fun i hi => ?_⟩
      · rw [hlo 129 (by decide) (by decide) (by decide) (by decide)]
        exact hR.to fun a q1 q2 => hlo a (by omega) (by omega) (by omega) (by omega)
      · rw [kn_upk (by decide), kn_up_ne _ _ _ (by decide), kn_upk (by decide), kn_up_ne _ _ _ (by decide), kn_up_ne _ _ _ (by decide)]
      · rw [kn_up_ne _ _ _ (by decide), kn_up_ne _ _ _ (by decide), kn_up_ne _ _ _ (by decide)]
        exact if_pos ⟨rfl, rfl⟩
      · exact if_pos ⟨rfl, rfl⟩
      · rw [kn_up_ne _ _ _ (by decide), kn_up_ne _ _ _ (by decide), kn_up_ne _ _ _ (by decide), kn_up_ne _ _ _ (by decide), kn_up_row, kn_up_ne _ _ _ (show 132 ≠ 128 by decide), kn_up_row]
        show upd (σ 125) len x i = upd (kn_up (kn_up (kn_up σ 125 len x) 123 2 (nI (len + 1))) 128 4 0 132) len x i
        rw [kn_up_ne _ _ _ (show 132 ≠ 128 by decide), kn_up_ne _ _ _ (show 132 ≠ 123 by decide), kn_up_ne _ _ _ (show 132 ≠ 125 by decide)]
        by_cases q : i = len
        · subst q
          exact (if_pos rfl).trans (if_pos rfl).symm
        · exact (if_neg q).trans ((t4 i (by omega)).trans (if_neg q).symm)
  · intro Q2 h2
    exact m_X7_append hV.2.1 t2 t3 (fun h => absurd hx h) (fun _ => h2 _ _ (kr_u4 _ _) (fun q => absurd q (by decide)) (hW4 1)) (fun h => absurd hx h)
  · intro Q2 h2
    have hl2 : len = 120 := by
      rw [t1] at hl
      have := (nI_leI (a := 120) (by decide) (by omega)).mp hl
      omega
    exact m_X7_append hV.2.1 t2 t3 (fun _ h => absurd h (by omega)) (fun h => absurd h hx) (fun _ _ => h2 _ _ (kr_u4 _ _) (fun q => absurd q (by decide)) (hW4 2))
theorem cs_undo (hV : kr_V z) (W : kr_Ws σ B) : kr_cs X z σ τ ML_undo [.ref 0, .ref 133] MX7_undo [.ref 128] (B + 1000) := by
  intro Q hQ
  obtain ⟨m, fi, o, k, len, hW⟩ := W
  have hI := hW.I
  have hW4 := kr_W4 ⟨m, fi, o, k, len, hW⟩
  obtain ⟨hR, hfi, hH, t1, t2, t3, t4⟩ := hW
  have e41 : σ 41 2 = nI k := hH.1.2.1.1
  have hk4 : k ≤ 4 := hH.1.2.1.2
  refine m_L_undo hV.1 hV.2.2.1 (fun Q6 h6 => m_X6_undo hV.1 hI (fun hx => h6 _ _ _ _ ⟨rfl, hQ 0 _ _ _ (fun _ => kr_ut τ 133 _) ?_⟩) (fun hx => h6 _ _ _ _ ⟨rfl, 1, List.mem_cons_self, hQ 1 0 _ _ (fun q => absurd q (by decide)) ?_⟩))
  · intro Q2 h2
    obtain ⟨w, rfl⟩ : ∃ w, k = w + 1 := by
      rcases k with _ | w
      · exact absurd (by rw [e41]; exact nI_le (Nat.le_refl 0) (by decide)) hx
      · exact ⟨w, rfl⟩
    have hhi : ∀ a, 123 ≤ a → kf_restH σ 41 1 o (w + 1) a = σ a := fun a ha => by
      unfold kf_restH
      rw [if_neg hx, kf_cpySt_ne _ (by omega), kn_up_ne _ _ _ (by omega)]
    have hw4 : w + 1 ≤ 4 := hk4
    refine m_X7_undo (sv := w + 1) hV.2.1 (by rw [hhi 128 (by decide)]; exact hH.1.2.2) hk4 (fun h => absurd h (by omega)) (fun w' hw' => ?_)
    obtain rfl : w' = w := by omega
    obtain ⟨s1, hs1⟩ : ∃ s1, s1 = kf_restH σ 41 1 o (w' + 1) := ⟨_, rfl⟩
    have hH1 : kr_H σ (kn_up s1 128 4 0) B o (w' + 1) := hH.to (Nat.le_refl _) (fun _ _ _ => rfl) (by rw [kn_upk (by decide), hs1, hhi 128 (by decide)]) (by rw [kn_up_ne _ _ _ (by decide), hs1, hhi 130 (by decide)])
    obtain ⟨⟨m1, f1, r1, r2⟩, hH2⟩ := kr_undo hH1
    rw [← hs1] at r1 hH2 hhi h2 ⊢
    have gne : ∀ a, a ≠ 129 → a ≠ 128 → kg_undo (kn_up s1 128 4 0) w' a = s1 a := fun a q1 q2 => by
      unfold kg_undo
      rw [kg_cpy_ne _ q1, kn_up_ne _ _ _ q2, kn_up_ne _ _ _ q2]
    have g128 : ∀ j, j ≠ 3 → j ≠ 4 → kg_undo (kn_up s1 128 4 0) w' 128 j = s1 128 j := fun j q1 q2 => by
      unfold kg_undo
      rw [kg_cpy_ne _ (by decide), kn_upk q1, kn_upk q2]
    refine h2 _ _ ?_ (fun _ => ?_) ⟨m1, f1, o, w', len, r1.to fun a q1 q2 => gne a (by omega) (by omega), by omega, hH2.to (by omega) (fun a q1 q2 => gne a (by omega) (by omega)) rfl rfl, ?_, ?_, t3, fun i hi => ?_⟩
    · unfold kg_undo
      rw [kg_cpy_ne _ (by decide), kn_upk (by decide), kr_u4]
    · exact hH2.1.2.1.1.symm
    · rw [gne 123 (by decide) (by decide), hhi 123 (by decide)]; exact t1
    · rw [g128 6 (by decide) (by decide), hhi 128 (by decide)]; exact t2
    · rw [gne 125 (by decide) (by decide), gne 132 (by decide) (by decide), hhi 125 (by decide), hhi 132 (by decide)]; exact t4 i hi
  · intro Q2 h2
    have hk0 : k = 0 := by
      rw [e41] at hx
      have := (nI_leI (b := 0) (by omega) (by decide)).mp hx
      omega
    exact m_X7_undo hV.2.1 hH.1.2.2 hk4 (fun _ => h2 _ _ (kr_u4 _ _) (fun q => absurd q (by decide)) (hW4 1)) (fun w hw => absurd hw (by omega))
end KRCS
