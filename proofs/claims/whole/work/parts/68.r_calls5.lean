-- the recorded firings; the digest
theorem kf_rstep_2 {s s1 : kn_S} {ch dg nu dg1 nu1 : Int32} (h : kf_rstep s 123 ch dg nu = some (s1, dg1, nu1)) : s1 123 2 = s 123 2 := by
  have hs : kf_rsep s 123 ch dg nu = some (s1, dg1, nu1) → s1 123 2 = s 123 2 := by
    intro h9
    unfold kf_rsep at h9
    split at h9
    · cases h9
    split at h9
    · cases h9
      rw [kn_upk (by decide), kf_put_ne _ _ _ _ (by decide)]
    · cases h9
  unfold kf_rstep at h
  split at h
  · exact hs h
  split at h
  · exact hs h
  split at h
  · exact hs h
  · cases h; rfl
theorem kf_rd_2 : ∀ (r i : Nat) (s : kn_S) (dg nu : Int32), (kf_rd 123 r i s dg nu).2 123 2 = s 123 2
  | 0, _, _, _, _ => rfl
  | r + 1, i, s, dg, nu => by
    unfold kf_rd
    cases h : kf_rstep s 123 (kf_at (s (123 + 2)) 120 (nI i)) dg nu with
    | none => rfl
    | some q =>
      obtain ⟨s1, dg1, nu1⟩ := q
      show (kf_rd 123 r (i + 1) s1 dg1 nu1).2 123 2 = s 123 2
      rw [kf_rd_2 r, kf_rstep_2 h]
theorem kf_read_2 (s : kn_S) (len : Nat) : (kf_read s 123 len).2 123 2 = s 123 2 := by
  unfold kf_read
  rw [kf_rd_2, kn_upk (by decide)]
section KRCS
variable {X : kn_X} {z : kn_Z} {σ : kn_S} {τ : kn_T} {B m fi o k len : Nat}
set_option maxHeartbeats 4000000 in
theorem cn_replay (hV : kr_V z) (W : kr_Ws σ B) (hB : B + 2000 < 2 ^ 31) : kr_cn X z σ τ MX6_replay [.ref 0] MX7_replay [.ref 128] (B + 1000) := by
  intro Q hQ
  obtain ⟨m, fi, o, k, len, hW⟩ := W
  have hI := hW.I
  have hfi := hW.2.1
  have hl : len ≤ 120 := hW.2.2.2.2.2.1
  have h125 : ∀ i, i < len → kn_up σ 123 3 0 125 i = σ 132 i := fun i hi => by rw [kn_up_ne _ _ _ (by decide)]; exact hW.2.2.2.2.2.2 i hi
  have h1232 : kn_up σ 123 3 0 123 2 = nI len := by rw [kn_upk (by decide)]; exact hW.2.2.2.1
  have hA := fun (t1 : kn_S) (ht : t1 132 = σ 132) => kt_A (t := σ) hl 121 0 (kn_up σ 123 3 0) t1 (by show len < 121 + 0; omega) (Nat.zero_le _) ht h125 (if_pos ⟨rfl, rfl⟩) h1232 (Nat.zero_le _) (fun i hi => absurd hi (by omega))
  obtain ⟨R, hRd⟩ : ∃ R, R = kf_read σ 123 len := ⟨_, rfl⟩
  have hA' : ∀ t1 : kn_S, t1 132 = σ 132 → (((kg_rpA len 121 0 t1).1 = 1 ∧ R.1 = nI (kg_rpA len 121 0 t1).2.1 ∧ (kg_rpA len 121 0 t1).2.1 ≤ len) ∨ ((kg_rpA len 121 0 t1).1 = 0 ∧ R.1 = -1 ∧ ∃ F, kt_F σ len 0 F ∧ R.2 123 3 = nI (3 * F) ∧ ∀ i, i < F → kt_sto R.2 σ len i)) ∧ (∃ n9, n9 ≤ 60 ∧ R.2 123 3 = nI n9) ∧ (∀ a, a ≠ 128 → (kg_rpA len 121 0 t1).2.2 a = t1 a) ∧ ∀ i, i ≤ 6 → (kg_rpA len 121 0 t1).2.2 128 i = t1 128 i := by
    rw [hRd]
    exact hA
  have hne : ∀ a, a ≠ 123 → a ≠ 127 → R.2 a = σ a := fun a q1 q2 => by rw [hRd]; exact kf_read_ne σ len q1 q2
  have h2 : R.2 123 2 = σ 123 2 := by
    rw [hRd]
    exact kf_read_2 σ len
  obtain ⟨-, ⟨n9, hn9, en9⟩, -, -⟩ := hA' σ rfl
  have hWr : kr_W R.2 R.2 B m fi o k len := hW.to2 (Nat.le_refl _) (fun a q1 q2 q3 q4 => by
    by_cases w : a = 123
    · subst w; exact Or.inr ⟨rfl, h2⟩
    · exact Or.inl (hne a w q4)) (fun j _ => by rw [hne 129 (by decide) (by decide)]) (hne 130 (by decide) (by decide)) (hne 132 (by decide) (by decide)) (by rw [hne 128 (by decide) (by decide)]) (by rw [hne 128 (by decide) (by decide)])
  have hfr : R.2 123 3 / 3 = nI (n9 / 3) := by rw [en9, show (3 : Int32) = nI 3 from rfl, pk_div (by omega) (by decide) (by decide)]
  have e132 : R.2 132 = σ 132 := hne 132 (by decide) (by decide)
  have tq : ∀ s' : kn_S, s' 132 = σ 132 → kn_up (kn_up s' 128 4 0) 128 7 0 132 = σ 132 := fun s' h => by rw [kn_up_ne _ _ _ (by decide), kn_up_ne _ _ _ (by decide), h]
  have u6 : ∀ (s' : kn_S) (i : Nat), i ≠ 4 → i ≠ 7 → kn_up (kn_up s' 128 4 0) 128 7 0 128 i = s' 128 i := fun s' i q1 q2 => by rw [kn_upk q2, kn_upk q1]
  have un : ∀ (s' : kn_S) (a : Nat), a ≠ 128 → kn_up (kn_up s' 128 4 0) 128 7 0 a = s' a := fun s' a q => by rw [kn_up_ne _ _ _ q, kn_up_ne _ _ _ q]
  refine m_X6_replay (fr := n9 / 3) hV.1 hI (by rw [← hRd]; exact hfr) (by omega) (fun h1 => hQ _ _ ?_) (fun h1 hf => hQ _ _ ?_) (fun h1 hf => hQ _ _ ?_)
  · -- the text can't be read
    rw [← hRd] at h1 ⊢
    intro Q2 g2
    obtain ⟨hc, -, fr1, fr2⟩ := hA' (kn_up (kn_up R.2 128 4 0) 128 7 0) (tq _ e132)
    rcases hc with ⟨a1, a2, a3⟩ | ⟨a1, a2, -⟩
    · refine m_X7_replay (m := m) hV.2.1 hWr.2.2.1.1.2.2 hWr.2.2.1.1.2.1.2 hWr.2.2.2.2.1 hl (fun _ => ?_) (fun h => absurd (a1.symm.trans h) (by decide)) (fun h => absurd (a1.symm.trans h) (by decide)) (fun h => absurd (a1.symm.trans h) (by decide))
      rw [← a2]
      refine g2 _ ⟨m, fi, o, k, len, hWr.to (by omega) (fun a q1 q2 _ => ?_) ?_ ?_ ?_ ?_ ?_⟩
      · rw [fr1 a (by omega), un _ a (by omega)]
      · rw [fr1 129 (by decide), un _ 129 (by decide)]
      · rw [fr1 130 (by decide), un _ 130 (by decide)]
      · rw [fr1 132 (by decide), un _ 132 (by decide)]
      · rw [fr2 3 (by decide), u6 _ 3 (by decide) (by decide)]
      · rw [fr2 6 (by decide), u6 _ 6 (by decide) (by decide)]
    · exact absurd a2 h1
  · -- a firing can't be treated
    rw [← hRd] at h1 hf ⊢
    intro Q2 g2
    obtain ⟨hc, -, fr1, fr2⟩ := hA' (kn_up (kn_up R.2 128 4 0) 128 7 0) (tq _ e132)
    rcases hc with ⟨a1, a2, a3⟩ | ⟨a1, a2, F, ⟨-, F2, F3, F4⟩, F5, F6⟩
    · exact absurd (a2.symm.trans h1) (fun w => by have := congrArg Int32.toInt w; rw [nI_toInt (by omega), show (-1 : Int32).toInt = -1 by decide] at this; omega)
    · have hF : n9 / 3 = F := by
        have := (nI_eq (by omega) (by omega)).mp (en9.symm.trans F5)
        omega
      rw [hF] at hf g2
      obtain ⟨hd, br1, br2⟩ := kt_B (s := R.2) (t := σ) F2 F4 F6 F 0 121 (kn_up (kg_rpA len 121 0 (kn_up (kn_up R.2 128 4 0) 128 7 0)).2.2 128 7 0) (by omega) (by show len < 121 + 0; omega) F3 (by rw [kn_up_ne _ _ _ (by decide), fr1 132 (by decide), tq _ e132])
      rcases hd with ⟨b1, b2, b3⟩ | ⟨b1, b2, -⟩
      · refine m_X7_replay (m := m) hV.2.1 hWr.2.2.1.1.2.2 hWr.2.2.1.1.2.1.2 hWr.2.2.2.2.1 hl (fun h => absurd (a1.symm.trans h) (by decide)) (fun _ _ => ?_) (fun _ h => absurd (b1.symm.trans h) (by decide)) (fun _ h => absurd (b1.symm.trans h) (by decide))
        have b2' : kf_fw R.2 F 0 = nI (kg_rpB len 121 0 0 (kn_up (kg_rpA len 121 0 (kn_up (kn_up R.2 128 4 0) 128 7 0)).2.2 128 7 0)).2.1 := b2
        rw [← b2']
        refine g2 _ ⟨m, fi, o, k, len, hWr.to (by omega) (fun a q1 q2 _ => ?_) ?_ ?_ ?_ ?_ ?_⟩
        · exact (br1 a (by omega)).trans (by rw [kn_up_ne _ _ _ (by omega), fr1 a (by omega), un _ a (by omega)])
        · exact (br1 129 (by decide)).trans (by rw [kn_up_ne _ _ _ (by decide), fr1 129 (by decide), un _ 129 (by decide)])
        · exact (br1 130 (by decide)).trans (by rw [kn_up_ne _ _ _ (by decide), fr1 130 (by decide), un _ 130 (by decide)])
        · exact (br1 132 (by decide)).trans (by rw [kn_up_ne _ _ _ (by decide), fr1 132 (by decide), un _ 132 (by decide)])
        · exact (br2 3 (by decide)).trans (by rw [kn_upk (by decide), fr2 3 (by decide), u6 _ 3 (by decide) (by decide)])
        · exact (br2 6 (by decide)).trans (by rw [kn_upk (by decide), fr2 6 (by decide), u6 _ 6 (by decide) (by decide)])
      · exact absurd b2 hf
  · -- all are treated
    rw [← hRd] at h1 hf ⊢
    intro Q2 g2
    obtain ⟨s', es'⟩ : ∃ s', s' = kf_rep m (kf_keepH R.2 41 1 o k) (n9 / 3) := ⟨_, rfl⟩
    rw [← es']
    have hs : ∀ a, a < 1 ∨ 21 ≤ a → s' a = kf_keepH R.2 41 1 o k a := fun a ha => by rw [es', kf_rep_ne m _ ha]
    have hhi : ∀ a, 128 ≤ a → s' a = σ a := fun a ha => by rw [hs a (by omega), kf_keepH_ne _ _ _ (by omega), hne a (by omega) (by omega)]
    obtain ⟨hc, -, fr1, fr2⟩ := hA' (kn_up (kn_up s' 128 4 0) 128 7 0) (tq _ (hhi 132 (by decide)))
    rcases hc with ⟨a1, a2, a3⟩ | ⟨a1, a2, F, ⟨-, F2, F3, F4⟩, F5, F6⟩
    · exact absurd (a2.symm.trans h1) (fun w => by have := congrArg Int32.toInt w; rw [nI_toInt (by omega), show (-1 : Int32).toInt = -1 by decide] at this; omega)
    have hF : n9 / 3 = F := by
      have := (nI_eq (by omega) (by omega)).mp (en9.symm.trans F5)
      omega
    rw [hF] at hf es' g2
    obtain ⟨TA, hTA⟩ : ∃ TA, TA = kn_up (kg_rpA len 121 0 (kn_up (kn_up s' 128 4 0) 128 7 0)).2.2 128 7 0 := ⟨_, rfl⟩
    have ta1 : ∀ a, a ≠ 128 → TA a = s' a := fun a q => by rw [hTA, kn_up_ne _ _ _ q, fr1 a q, un _ a q]
    have ta2 : ∀ i, i ≤ 6 → i ≠ 4 → TA 128 i = s' 128 i := fun i q1 q2 => by rw [hTA, kn_upk (by omega), fr2 i q1, u6 _ i q2 (by omega)]
    obtain ⟨hd, br1, br2⟩ := kt_B (s := R.2) (t := σ) F2 F4 F6 F 0 121 TA (by omega) (by show len < 121 + 0; omega) F3 (by rw [ta1 132 (by decide), hhi 132 (by decide)])
    have hd' : (((kg_rpB len 121 0 0 TA).1 = 1 ∧ kf_fw R.2 F 0 = nI (kg_rpB len 121 0 0 TA).2.1 ∧ (kg_rpB len 121 0 0 TA).2.1 ≤ 20) ∨ ((kg_rpB len 121 0 0 TA).1 = 0 ∧ kf_fw R.2 F 0 = -1 ∧ (kg_rpB len 121 0 0 TA).2.1 = F ∧ ∀ i, 0 ≤ i → i < F → kt_good σ len i)) := hd
    have br1' : ∀ a, a ≠ 128 → (kg_rpB len 121 0 0 TA).2.2 a = TA a := br1
    have br2' : ∀ i, i ≤ 6 → (kg_rpB len 121 0 0 TA).2.2 128 i = TA 128 i := br2
    rcases hd' with ⟨b1, b2, b3⟩ | ⟨b1, b2, b3, b4⟩
    · exact absurd (b2.symm.trans hf) (fun w => by have := congrArg Int32.toInt w; rw [nI_toInt (by omega), show (-1 : Int32).toInt = -1 by decide] at this; omega)
    obtain ⟨TB, hTB⟩ : ∃ TB, TB = (kg_rpB len 121 0 0 TA).2.2 := ⟨_, rfl⟩
    have tb1 : ∀ a, a ≠ 128 → TB a = s' a := fun a q => by rw [hTB, br1' a q, ta1 a q]
    have tb2 : ∀ i, i ≤ 6 → i ≠ 4 → TB 128 i = s' 128 i := fun i q1 q2 => by rw [hTB, br2' i q1, ta2 i q1 q2]
    have sv : ∀ a, a ≠ 128 → a ≠ 130 → kn_up (kg_saves TB k) 128 7 0 a = s' a := fun a q1 q2 => by rw [kn_up_ne _ _ _ q1, kg_saves_ne _ _ q2 q1, tb1 a q1]
    have hKR : kr_R (kf_keepH R.2 41 1 o k) 1 (kn_up (kg_saves TB k) 128 7 0 129) m fi := by
      rw [sv 129 (by decide) (by decide), hhi 129 (by decide)]
      exact kr_RK hWr (by rw [hne 129 (by decide) (by decide)])
    have hst : ∀ i, i < F → kt_sto (kf_keepH R.2 41 1 o k) σ len i := fun i hi => by
      obtain ⟨w1, w2, w3⟩ := F6 i hi
      unfold kt_sto
      rw [kf_keepH_ne _ _ _ (by decide)]
      exact ⟨w1, w2, w3⟩
    obtain ⟨c1, c2, c3, c4⟩ := kt_C (s := kf_keepH R.2 41 1 o k) (t := σ) F2 F4 hst (fun i hi => b4 i (Nat.zero_le _) hi) (by omega) F 0 121 (kn_up (kg_saves TB k) 128 7 0) (by omega) (by show len < 121 + 0; omega) F3 (by rw [sv 132 (by decide) (by decide), hhi 132 (by decide)]) hKR
    have c2' : kg_okC len m 121 0 (kn_up (kg_saves TB k) 128 7 0) := c2
    have c1' : kr_R (kf_rep m (kf_keepH R.2 41 1 o k) F) 1 (kg_rpC len m 121 0 (kn_up (kg_saves TB k) 128 7 0) 129) m (fi + F) := c1
    have c3' : ∀ a, a ≠ 128 → a ≠ 129 → kg_rpC len m 121 0 (kn_up (kg_saves TB k) 128 7 0) a = kn_up (kg_saves TB k) 128 7 0 a := c3
    have c4' : ∀ i, i ≤ 6 → kg_rpC len m 121 0 (kn_up (kg_saves TB k) 128 7 0) 128 i = kn_up (kg_saves TB k) 128 7 0 128 i := c4
    have p3 : s' 128 3 = nI k := by rw [hhi 128 (by decide)]; exact hW.2.2.1.1.2.2
    have p6 : s' 128 6 = nI len := by rw [hhi 128 (by decide)]; exact hW.2.2.2.2.1
    rw [← es'] at c1'
    rw [hTB, hTA] at c2' c1' c3' c4'
    rw [hTA] at b1 b3
    refine m_X7_replay (m := m) hV.2.1 p3 hWr.2.2.1.1.2.1.2 p6 hl (fun h => absurd (a1.symm.trans h) (by decide)) (fun _ h => absurd (b1.symm.trans h) (by decide)) (fun _ _ => c2') (fun _ _ => ?_)
    rw [b3]
    refine g2 _ (kr_fin2 (T := TB) (B' := B + 1000) hWr hs (fun a q => ?_) ?_ ?_ (fun a q => ?_) (fun a q => ?_) ?_ ?_ c1' (by omega) (by omega))
    · rw [tb1 a (by omega), hhi a (by omega), hne a (by omega) (by omega)]
    · rw [tb2 3 (by decide) (by decide), hhi 128 (by decide), hne 128 (by decide) (by decide)]
    · rw [tb2 6 (by decide) (by decide), hhi 128 (by decide), hne 128 (by decide) (by decide)]
    · rw [c3' a (by omega) (by omega), ← hTA, ← hTB, sv a (by omega) (by omega)]
    · rw [c3' a (by omega) (by omega), ← hTA, ← hTB, kn_up_ne _ _ _ (by omega)]
    · rw [c4' 3 (by decide), ← hTA, ← hTB, kn_upk (by decide)]
    · rw [c4' 6 (by decide), ← hTA, ← hTB, kn_upk (by decide)]
theorem kr_hA {F9 : kn_F1} (F0 : ∀ f h, F9 f h 0 = h) (Fs : ∀ f h j, F9 f h (j + 1) = 31 * F9 f h j + (f (nI j)).toInt64) {f : Int32 → Int32} {g : Nat → Int32} {a : Nat} {h : Int64} : ∀ n, (∀ j, j < n → f (nI j) = g (a + j)) → F9 f h n = kg_hA g a h n
  | 0, _ => F0 f h
  | n + 1, hj => by
    rw [Fs, kr_hA F0 Fs n (fun j q => hj j (by omega)), hj n (by omega)]
    rfl
/-- the digests are of the same numbers -/
theorem cn_digest (hV : kr_V z) (W : kr_Ws σ B) (hB : B + 1000 < 16777216) (Q : kn_Q) (hQ : ∀ (v : Int64) (σ1 : kn_S), (∀ Q2 : kn_Q, (∀ (σ2 : kn_S) (τ2 : kn_T), kr_Ws σ2 (B + 1000) → Q2 (.inl (some (.long v))) σ2 τ2 z) → kn_Ev X MX7_digest [.ref 128] σ1 τ z 0 0 Q2) → Q (.inl (some (.long v))) σ1 τ z) : kn_Ev X MX6_digest [.ref 0] σ τ z 0 0 Q := by
  obtain ⟨m, fi, o, k, len, hW⟩ := W
  obtain ⟨m1, m2, m3⟩ := kr_hm hW
  have hfi := hW.2.1
  obtain ⟨lc, l1, l2, l3, l4⟩ := kr_log hW
  obtain ⟨F9, F0, Fs⟩ : ∃ F9 : kn_F1, (∀ f h, F9 f h 0 = h) ∧ ∀ f h j, F9 f h (j + 1) = 31 * F9 f h j + (f (nI j)).toInt64 := ⟨kf_dgF, fun _ _ => rfl, fun _ _ _ => rfl⟩
  obtain ⟨N9, N0, Ns⟩ : ∃ N9 : kn_N1, (∀ f k h, N9 f k h 0 = h) ∧ ∀ f k h j, N9 f k h (j + 1) = F9 (f (nI j)) (N9 f k h j) k := ⟨fun f k h n => Nat.rec h (fun j a => F9 (f (nI j)) a k) n, fun _ _ _ => rfl, fun _ _ _ _ => rfl⟩
  have hset : F9 (kf_setOr σ 1) (31 * 2969 + (σ 123 2).toInt64) 9 = kg_hA (σ 129) 0 (31 * 2969 + (σ 123 2).toInt64) 9 := kr_hA F0 Fs 9 (fun j hj => by
    rw [Nat.zero_add]
    unfold kf_setOr
    by_cases q : j = 8
    · subst q
      rw [if_pos (show nI 8 = 8 from rfl)]
      exact hW.1.1.1.cyl
    · rw [if_neg (show ¬ nI j = 8 from fun w => q ((nI_eq (a := j) (b := 8) (by omega) (by decide)).mp w)), kf_at_nI (by decide) (by omega)]
      exact hW.1.1.1.set (by omega))
  have hctl : ∀ h, F9 (kf_aboutCtl σ 1) h 5 = kg_hA (σ 129) 12 h 5 := fun h => kr_hA F0 Fs 5 (fun j hj => by
    have : j = 0 ∨ j = 1 ∨ j = 2 ∨ j = 3 ∨ j = 4 := by omega
    rcases this with rfl | rfl | rfl | rfl | rfl
    · show (if σ 1 12 = 0 then 0 else 1) = σ 129 12
      rw [hW.1.1.1.fau]
      rcases hW.1.1.2.2.2.2.1.2 with q | q <;> rw [q] <;> rfl
    · exact hW.1.1.1.low
    · exact hW.1.1.1.goo
    · exact hW.1.1.1.ste
    · exact hW.1.1.1.las)
  have hlea : ∀ h, F9 (kf_at (σ 13) 24) h 24 = kg_hA (σ 129) 49 h 24 := fun h => kr_hA F0 Fs 24 (fun j hj => by
    rw [kf_at_nI (by decide) hj]
    exact hW.1.1.1.lea hj)
  have hlog : ∀ h j, j ≤ lc → N9 (kf_about σ 14) 3 (31 * h + (σ 14 4).toInt64) j = kg_hA (σ 129) 73 h (1 + 3 * j) := by
    intro h j
    induction j with
    | zero =>
      intro _
      rw [N0, l1, ← l2]
      rfl
    | succ j ih =>
      intro hj
      obtain ⟨e0, e1, e2⟩ := l4 j (by omega)
      have e0 : kf_about σ 14 (nI j) (nI 0) = σ 129 (73 + (1 + 3 * j)) := e0.trans (congrArg (σ 129) (by omega))
      have e1 : kf_about σ 14 (nI j) (nI 1) = σ 129 (73 + (1 + 3 * j + 1)) := e1.trans (congrArg (σ 129) (by omega))
      have e2 : kf_about σ 14 (nI j) (nI 2) = σ 129 (73 + (1 + 3 * j + 2)) := e2.trans (congrArg (σ 129) (by omega))
      rw [Ns, ih (by omega), Fs _ _ 2, Fs _ _ 1, Fs _ _ 0, F0, e0, e1, e2, show 1 + 3 * (j + 1) = 1 + 3 * j + 1 + 1 + 1 by omega]
      rfl
  have eb : (if σ 1 16 = 0 then 0 else 1 : Int64) = (σ 129 11).toInt64 := by
    rw [hW.1.1.1.bro]
    rcases hW.1.1.2.2.2.2.1.1 with q | q <;> rw [q] <;> rfl
  refine m_X6_digest (F9 := F9) (N9 := N9) hV.1 F0 Fs N0 Ns (hW.1.1.1.cyl.trans m1) ⟨m2, m3⟩ l1 l3 (hQ _ _ (fun Q2 h2 => ?_))
  have hcyl : ∀ j h, j ≤ m → N9 (kf_aboutCyl σ 1) 5 h j = Nat.rec h (fun j a => F9 (kg_tell (kn_up σ 128 4 0) j) a 5) j := by
    intro j h
    induction j with
    | zero => intro _; exact N0 _ _ _
    | succ j ih =>
      intro hj
      have ef : kf_aboutCyl σ 1 (nI j) = kg_tell (kn_up σ 128 4 0) j := funext fun y => kr_tell hW (by omega) y
      rw [Ns, ih (by omega), ef]
  obtain ⟨N8, N80, N8s, hN8⟩ : ∃ N8 : Int64 → Nat → Int64, (∀ h, N8 h 0 = h) ∧ (∀ h j, N8 h (j + 1) = F9 (kg_tell (kn_up σ 128 4 0) j) (N8 h j) 5) ∧ ∀ j h, j ≤ m → N9 (kf_aboutCyl σ 1) 5 h j = N8 h j := ⟨fun h n => Nat.rec h (fun j a => F9 (kg_tell (kn_up σ 128 4 0) j) a 5) n, fun _ => rfl, fun _ _ => rfl, hcyl⟩
  refine m_X7_digest (m := m) (fi := fi) (F9 := F9) (N9 := N8) hV.2.1 m1 ⟨m2, m3⟩ (by omega) hW.1.1.2.2.2.1 l2 l3 F0 Fs N80 N8s ?_
  have e6 : σ 123 2 = kn_up σ 128 4 0 128 6 := by rw [kn_upk (by decide), hW.2.2.2.1, hW.2.2.2.2.1]
  have e41 : σ 41 2 = kn_up σ 128 4 0 128 3 := by rw [kn_upk (by decide), hW.2.2.1.1.2.1.1, hW.2.2.1.1.2.2]
  have ev : kf_dg F9 N9 σ m lc = kg_dgS N8 (kn_up σ 128 4 0) m fi lc := by
    unfold kf_dg kf_dg1 kf_dg2 kf_dg3 kf_dg4 kf_dg5 kg_dgS
    rw [hset, hctl, hN8 m _ (Nat.le_refl _), hlea, hlog _ lc (Nat.le_refl _), eb, e6, e41, hW.1.1.1.fir, hW.1.2, hW.1.1.1.see, kr_u129]
  rw [← ev]
  exact h2 _ _ (kr_W4 ⟨m, fi, o, k, len, hW⟩ 0)
end KRCS
