-- a firing, on both sides
theorem kr_le_of {x : Int32} {N : Nat} (hN : N < 2 ^ 31) (h0 : 0 ≤ x.toInt) (h1 : x.toInt ≤ (N : Int)) : kr_le x N :=
  ⟨x.toInt.toNat, by omega, Int32.toInt_inj.mp (by rw [nI_toInt (by omega)]; omega)⟩
theorem kr_le.i {x : Int32} {N : Nat} (hN : N < 2 ^ 31) (h : kr_le x N) : 0 ≤ x.toInt ∧ x.toInt ≤ (N : Int) := by
  obtain ⟨j, hj, rfl⟩ := h
  rw [nI_toInt (by omega)]
  omega
theorem kr_place {s : kn_S} {l o e : Nat} {x : Int32} (h3 : s l 3 = nI o) (hx : x = nI e) (ho : o < 60) (he : e ≤ 60) : kf_place s l x = nI ((o + e) % 60) := by
  unfold kf_place
  exact kn_rem (by rw [h3, hx, nI_add]) (by omega) (by omega) (by omega) rfl
theorem kr_noteE {s : kn_S} {l o lc : Nat} {k n f : Int32} (h3 : s l 3 = nI o) (ho : o < 60) (h4 : s l 4 = nI lc) (hlc : lc ≤ 60) : kf_note s l k n f = kn_up (kn_up (kn_up (if lc = 60 then kn_up s l 3 (nI ((o + 1) % 60)) else kn_up s l 4 (nI (lc + 1))) (l + 2) ((o + lc) % 60) k) (l + 4) ((o + lc) % 60) n) (l + 6) ((o + lc) % 60) f := by
  have hp : (o + lc) % 60 < 60 := Nat.mod_lt _ (by omega)
  dsimp only [kf_note]
  rw [kr_place h3 h4 ho hlc, kr_place (x := 1) (e := 1) h3 rfl ho (by omega), kf_put_nI _ _ (by decide) hp, kf_put_nI _ _ (by decide) hp, kf_put_nI _ _ (by decide) hp]
  by_cases q : lc = 60
  · rw [if_pos q, if_pos (show (60 : Int32) ≤ s l 4 by rw [h4, q]; exact nI_le (Nat.le_refl _) (by decide))]
  · rw [if_neg q, if_neg (show ¬ (60 : Int32) ≤ s l 4 by rw [h4]; exact nI_ge (a := lc) (b := 60) (by omega) (by decide)), h4, nI_1]
theorem kr_shAt (t : kn_S) (j : Nat) : ∀ k, kg_sh t k 129 (74 + j) = if j < k then t 129 (74 + j + 3) else t 129 (74 + j)
  | 0 => rfl
  | k + 1 => by
    show kn_up (kg_sh t k) 129 (74 + k) (kg_sh t k 129 (74 + k + 3)) 129 (74 + j) = _
    unfold kn_up
    by_cases q : j = k
    · subst q
      rw [if_pos ⟨rfl, rfl⟩, if_pos (Nat.lt_succ_self _)]
      have := kr_shAt t (j + 3) j
      rw [if_neg (by omega)] at this
      exact this
    · rw [if_neg (by omega), kr_shAt t j k]
      by_cases q2 : j < k
      · rw [if_pos q2, if_pos (by omega)]
      · rw [if_neg q2, if_neg (by omega)]
theorem kr_lwAt (t : kn_S) {p j : Nat} {k n : Int32} (hp : 74 ≤ p) (hj : 74 ≤ j) : kg_lw t p k n 129 j = if j = p then k else if j = p + 1 then n else if j = p + 2 then t 129 9 else t 129 j := by
  simp only [kg_lw, kn_up, true_and]
  rw [if_neg (show ¬ j = 73 by omega), if_neg (show ¬ 9 = p + 1 by omega), if_neg (show ¬ 9 = p by omega)]
  repeat' split
  all_goals first | rfl | (exfalso; omega)
section KRT
variable {s t : kn_S} {b m fi fk c : Nat} {e : Int32}
set_option maxHeartbeats 1000000 in
theorem kr_note (k n : Int32) (h : kr_X s b (t 129) m fi fk) : kr_X (kf_note s (b + 13) k n (s b 13)) b (kg_logs t k n 129) m fi fk := by
  obtain ⟨hA, hL, hI⟩ := h
  have hlo : ∀ j, j < 73 → kg_logs t k n 129 j = t 129 j := fun j hj => kg_logs_lo t k n hj
  refine ⟨(hA.to (fun a h1 h2 j _ => by rw [kf_note_ne _ _ _ _ (by omega) (by omega) (by omega) (by omega)])).of hlo, ?_, hI.of hlo⟩
  obtain ⟨o, lc, ⟨h3, ho⟩, ⟨h4, h73, hlc⟩, hi⟩ := hL
  have e9 : s b 13 = t 129 9 := hA.fir
  rw [kr_noteE h3 ho h4 hlc, e9]
  have ne2 : ∀ (x : kn_S) (i j p : Nat) (v w u : Int32), kn_up (kn_up (kn_up x (b + 13 + 2) p v) (b + 13 + 4) p w) (b + 13 + 6) p u (b + 13) j = x (b + 13) j := fun x i j p v w u => by
    rw [kn_up_ne _ _ _ (by omega), kn_up_ne _ _ _ (by omega), kn_up_ne _ _ _ (by omega)]
  have at2 : ∀ (x : kn_S) (j p : Nat) (v w u : Int32), kn_up (kn_up (kn_up x (b + 13 + 2) p v) (b + 13 + 4) p w) (b + 13 + 6) p u (b + 13 + 2) j = if j = p then v else x (b + 13 + 2) j := fun x j p v w u => by
    rw [kn_up_ne _ _ _ (by omega), kn_up_ne _ _ _ (by omega), kn_up_row]; rfl
  have at4 : ∀ (x : kn_S) (j p : Nat) (v w u : Int32), kn_up (kn_up (kn_up x (b + 13 + 2) p v) (b + 13 + 4) p w) (b + 13 + 6) p u (b + 13 + 4) j = if j = p then w else x (b + 13 + 4) j := fun x j p v w u => by
    rw [kn_up_ne _ _ _ (by omega), kn_up_row]
    show (if j = p then w else kn_up x (b + 13 + 2) p v (b + 13 + 4) j) = _
    rw [kn_up_ne _ _ _ (by omega)]
  have at6 : ∀ (x : kn_S) (j p : Nat) (v w u : Int32), kn_up (kn_up (kn_up x (b + 13 + 2) p v) (b + 13 + 4) p w) (b + 13 + 6) p u (b + 13 + 6) j = if j = p then u else x (b + 13 + 6) j := fun x j p v w u => by
    rw [kn_up_row]
    show (if j = p then u else kn_up (kn_up x (b + 13 + 2) p v) (b + 13 + 4) p w (b + 13 + 6) j) = _
    rw [kn_up_ne _ _ _ (by omega), kn_up_ne _ _ _ (by omega)]
  by_cases q : lc = 60
  · subst q
    rw [if_pos rfl]
    have hg : kg_logs t k n = kg_lw (kg_log0 t) 251 k n := by
      unfold kg_logs
      rw [if_pos (show t 129 73 = 60 from h73)]
    have e59 : kg_log0 t 129 73 = nI 59 := by rw [kg_log0, kn_up_row]; rfl
    have e09 : kg_log0 t 129 9 = t 129 9 := by rw [kg_log0, kn_upk (by omega), kg_sh_lo t (by omega)]
    have esh : ∀ j, j < 177 → kg_log0 t 129 (74 + j) = t 129 (74 + j + 3) := fun j hj => by
      rw [kg_log0, kn_upk (by omega), kr_shAt, if_pos hj]
    refine ⟨(o + 1) % 60, 60, ⟨?_, Nat.mod_lt _ (by omega)⟩, ⟨?_, ?_, Nat.le_refl _⟩, fun i hi9 => ?_⟩
    · rw [ne2 _ 0, kn_up_row]; rfl
    · rw [ne2 _ 0, kn_upk (by decide), h4]
    · rw [hg, kg_lw_73 _ _ _ (by omega), e59]; rfl
    · rw [at2, at4, at6, kn_up_ne _ _ _ (by omega), kn_up_ne _ _ _ (by omega), kn_up_ne _ _ _ (by omega), hg, kr_lwAt _ (by omega) (by omega), kr_lwAt _ (by omega) (by omega), kr_lwAt _ (by omega) (by omega), e09]
      by_cases qi : i = 59
      · subst qi
        have ep : ((o + 1) % 60 + 59) % 60 = (o + 60) % 60 := by omega
        rw [ep]
        refine ⟨?_, ?_, ?_⟩ <;> rw [if_pos rfl] <;> rfl
      · have ep : ((o + 1) % 60 + i) % 60 = (o + (i + 1)) % 60 := by omega
        have np : ¬ (o + (i + 1)) % 60 = (o + 60) % 60 := by omega
        rw [ep, if_neg np, if_neg np, if_neg np]
        have h9 := hi (i + 1) (by omega)
        rw [if_neg (by omega), if_neg (by omega), if_neg (by omega), if_neg (by omega), if_neg (by omega), if_neg (by omega), if_neg (by omega), if_neg (by omega), if_neg (by omega)]
        have e1 := esh (3 * i) (by omega)
        have e2 := esh (3 * i + 1) (by omega)
        have e3 := esh (3 * i + 2) (by omega)
        refine ⟨h9.1.trans ?_, h9.2.1.trans ?_, h9.2.2.trans ?_⟩
        · rw [e1]; exact congrArg (t 129) (by omega)
        · exact Eq.trans (congrArg (t 129) (by omega)) e2.symm
        · exact Eq.trans (congrArg (t 129) (by omega)) e3.symm
  · rw [if_neg q]
    have n60 : ¬ t 129 73 = 60 := by
      rw [h73]
      intro w
      exact q ((nI_eq (a := lc) (b := 60) (by omega) (by decide)).mp w)
    have hg : kg_logs t k n = kg_lw t (74 + 3 * lc) k n := by
      unfold kg_logs
      rw [if_neg n60, h73, nI_clamp (by omega)]
    refine ⟨o, lc + 1, ⟨?_, ho⟩, ⟨?_, ?_, by omega⟩, fun i hi9 => ?_⟩
    · rw [ne2 _ 0, kn_upk (by decide), h3]
    · rw [ne2 _ 0, kn_up_row]; rfl
    · rw [hg, kg_lw_73 _ _ _ (by omega), h73, nI_1]
    · rw [at2, at4, at6, kn_up_ne _ _ _ (by omega), kn_up_ne _ _ _ (by omega), kn_up_ne _ _ _ (by omega), hg, kr_lwAt _ (by omega) (by omega), kr_lwAt _ (by omega) (by omega), kr_lwAt _ (by omega) (by omega)]
      by_cases qi : i = lc
      · subst qi
        rw [if_pos rfl, if_pos rfl, if_pos rfl, if_pos rfl, if_neg (by omega), if_pos rfl, if_neg (by omega), if_neg (by omega), if_pos rfl]
        exact ⟨rfl, rfl, rfl⟩
      · have np : ¬ (o + i) % 60 = (o + lc) % 60 := by omega
        rw [if_neg np, if_neg np, if_neg np]
        rw [if_neg (by omega), if_neg (by omega), if_neg (by omega), if_neg (by omega), if_neg (by omega), if_neg (by omega), if_neg (by omega), if_neg (by omega), if_neg (by omega)]
        exact hi i (by omega)
-- the sensor
theorem kr_w1 (h : kr_X s b (t 129) m fi fk) : kr_X (kf_w1 s b e) b (kg_s1 t e 129) m fi fk := by
  have e6 : kf_at (s (b + 2)) 8 6 = t 129 6 := (kf_at_nI (k := 6) (by decide) (by decide)).trans (h.1.set (by decide))
  unfold kf_w1 kg_s1
  rw [e6]
  split
  · have h1 := h.low (v := 0)
    have h2 := h1.goo (v := kn_up t 129 13 0 129 14 + 1)
    dsimp only
    rw [h1.1.goo]
    exact h2
  · have h1 := h.low (v := t 129 13 + 1)
    have h2 := h1.goo (v := 0)
    dsimp only
    rw [h.1.low]
    exact h2
theorem kr_w3 (h : kr_X s b (t 129) m fi fk) : kr_X (kf_w3 s b) b (kg_s3 t 129) m fi fk := by
  unfold kf_w3 kg_s3
  rw [h.1.fau, h.1.goo]
  rcases h.2.2.2.2.1.2 with q | q
  · rw [q, if_pos rfl, if_neg (by decide)]; exact h
  · rw [q, if_neg (by decide), if_pos rfl]
    split
    · exact h
    · exact kr_note 2 0 (h.fau (v := 0) (Or.inl rfl))
theorem kr_w2 (h : kr_X s b (t 129) m fi fk) : kr_X (kf_w2 s b) b (kg_s2 t 129) m fi fk := by
  unfold kf_w2 kg_s2
  rw [h.1.fau, h.1.low]
  split
  · split
    · exact kr_w3 h
    · exact kr_note 1 0 (h.fau (v := 1) (Or.inr rfl))
  · exact kr_w3 h
theorem kr_trA {cl : Nat} (h : kr_X s b (t 129) m fi fk) : kr_X (kf_trA s b (nI cl) e) b (kg_t3 t cl e 129) m fi fk := by
  have h1 : kr_X (kf_watch s b e) b (kg_sen t e 129) m fi fk := kr_w2 (kr_w1 h)
  unfold kf_trA kg_t3
  dsimp only
  rw [h1.1.las, h1.1.ste]
  exact (h1.ste (v := _)).las (v := nI cl)
-- a knock, a rest
theorem kr_thr (hA : kr_A s b (t 129)) (hc : c < 8) : kf_thr s b (nI c) = kg_thr t c := by
  unfold kf_thr kg_thr
  rw [kf_at_nI (by decide) hc, kf_at_0 _ (by decide) (by decide), hA.lev hc, hA.set (by decide)]
theorem kr_thrE (hI : kr_I (t 129) m fi fk) (hc : c < 8) : ∃ j : Nat, kg_thr t c = nI (j + 50) ∧ j ≤ 160000 := by
  obtain ⟨lv, hlv, e1⟩ := hI.2.2.2.2.2.1 c hc
  obtain ⟨ga, hga, e2⟩ := hI.2.2.2.1.1
  have hm : lv * ga ≤ 5120000 * 128 := Nat.mul_le_mul hlv hga
  refine ⟨lv * ga / 4096, ?_, by omega⟩
  unfold kg_thr
  rw [e1, e2, pk_mul, show (4096 : Int32) = nI 4096 from rfl, pk_div (by omega) (by decide) (by decide), show (50 : Int32) = nI 50 from rfl, nI_add]
theorem kr_maxE (a x : Int32) : (if x ≤ a then a else x) = kf_max a x := by
  unfold kf_max
  by_cases q : a < x
  · rw [if_pos q, if_neg]
    rw [Int32.lt_iff_toInt_lt] at q
    rw [Int32.le_iff_toInt_le]
    omega
  · rw [if_neg q, if_pos]
    rw [Int32.lt_iff_toInt_lt] at q
    rw [Int32.le_iff_toInt_le]
    omega
theorem kf_max_i (a x : Int32) : (kf_max a x).toInt = max a.toInt x.toInt := by
  unfold kf_max
  split
  · rename_i q; rw [Int32.lt_iff_toInt_lt] at q; omega
  · rename_i q; rw [Int32.lt_iff_toInt_lt] at q; omega
theorem kf_min_i (a x : Int32) : (kf_min a x).toInt = min a.toInt x.toInt := by
  unfold kf_min
  split
  · rename_i q; rw [Int32.lt_iff_toInt_lt] at q; omega
  · rename_i q; rw [Int32.lt_iff_toInt_lt] at q; omega
theorem kr_subI {x y : Int32} {N M : Nat} (hx : kr_le x N) (hy : kr_le y M) (hN : N < 2 ^ 30) (hM : M < 2 ^ 30) : (x - y).toInt = x.toInt - y.toInt := by
  have h1 := hx.i (by omega)
  have h2 := hy.i (by omega)
  rw [Int32.toInt_sub]
  exact Int.bmod_eq_of_le (by omega) (by omega)
theorem kr_addI {x y : Int32} {N M : Nat} (hx : kr_le x N) (hy : kr_le y M) (hN : N < 2 ^ 30) (hM : M < 2 ^ 30) : (x + y).toInt = x.toInt + y.toInt := by
  have h1 := hx.i (by omega)
  have h2 := hy.i (by omega)
  rw [Int32.toInt_add]
  exact Int.bmod_eq_of_le (by omega) (by omega)
theorem kr_listenK {cl : Nat} (h : kr_X s b (t 129) m fi fk) (hc : c < 8) (hcl : cl < 24) : kr_X (kf_listenK s b (nI c) (nI cl) e) b (kg_kn t c cl e (kg_thr t c) 129) m fi (fk + 1) := by
  have hA := h.1
  obtain ⟨j, hj, hj2⟩ := kr_thrE h.2.2 hc
  have hthr : ¬ kg_thr t c ≤ 0 := by rw [hj]; exact nI_nle (by omega) (by omega)
  have e1 : kf_at (s (b + 2)) 8 1 = t 129 1 := (kf_at_nI (k := 1) (by decide) (by decide)).trans (hA.set (by decide))
  have e3 : kf_at (s (b + 2)) 8 3 = t 129 3 := (kf_at_nI (k := 3) (by decide) (by decide)).trans (hA.set (by decide))
  dsimp only [kf_listenK, kf_rfast, kg_kn]
  rw [kr_thr hA hc, if_neg hthr, e1, e3, kf_at_nI (by decide) hc, kf_at_nI (by decide) hcl, hA.fast hc, hA.lea hcl, kf_put_nI _ _ (by decide) hc, kf_put_nI _ _ (by decide) hc, kf_put_nI _ _ (by decide) hc, nI_clamp (by omega), kr_maxE, Int32.add_assoc]
  generalize kf_min (3 * t 129 1) (t 129 1 * (e - kg_thr t c) / kg_thr t c) = ex
  have hf := h.2.2.2.2.2.2.1 c hc
  have hl := h.2.2.2.2.2.2.2.2.1 cl hcl
  have hs := h.2.2.2.2.2.1.2.2 3 (by decide)
  have i1 := hf.i (by decide)
  have i2 := hl.i (by decide)
  have i3 := hs.i (by decide)
  have hv : kr_le (kf_max (t 129 (17 + c)) (kf_min (t 129 (17 + c) + (t 129 1 + ex)) (t 129 3 - t 129 (49 + cl)))) 1000 := by
    have i4 := kr_subI hs hl (by decide) (by decide)
    refine kr_le_of (by decide) ?_ ?_ <;> rw [kf_max_i, kf_min_i] <;> omega
  have h1 := h.fast hc hv
  have h2 := h1.qui (c := c) (v := 0) hc
  have h3 := h2.kno (c := c) hc
  exact kr_note 0 (nI c) h3
theorem kr_divI {x : Int32} {d : Nat} (h0 : 1 < d) (hd : d < 2 ^ 31) : (x / nI d).toInt = x.toInt.tdiv d := by
  rw [Int32.toInt_div_of_ne_right, nI_toInt hd]
  intro q
  have := congrArg Int32.toInt q
  rw [nI_toInt hd] at this
  have : (-1 : Int32).toInt = -1 := by decide
  omega
theorem kr_td (x : Int) : x = 16 * x.tdiv 16 + x.tmod 16 ∧ (0 ≤ x → 0 ≤ x.tmod 16 ∧ x.tmod 16 < 16) ∧ (x < 0 → -16 < x.tmod 16 ∧ x.tmod 16 ≤ 0) := by
  refine ⟨(Int.mul_tdiv_add_tmod x 16).symm, fun h => ⟨Int.tmod_nonneg 16 h, Int.tmod_lt_of_pos x (by decide)⟩, fun h => ?_⟩
  have h1 : x.tmod 16 = -((-x).tmod 16) := by rw [Int.neg_tmod, Int.neg_neg]
  have h2 := Int.tmod_nonneg 16 (show 0 ≤ -x by omega)
  have h3 := Int.tmod_lt_of_pos (-x) (show (0 : Int) < 16 by decide)
  omega
theorem kr_remI (x : Int32) : (x - x / 16 * 16).toInt = x.toInt.tmod 16 ∧ (x / 16).toInt = x.toInt.tdiv 16 ∧ (x / 16 * 16).toInt = x.toInt.tdiv 16 * 16 := by
  have hx1 := x.le_toInt
  have hx2 := x.toInt_lt
  have hd : (x / 16).toInt = x.toInt.tdiv 16 := kr_divI (d := 16) (by decide) (by decide)
  have e16 : (16 : Int32).toInt = 16 := by decide
  obtain ⟨h1, h2, h3⟩ := kr_td x.toInt
  have hm : (x / 16 * 16).toInt = x.toInt.tdiv 16 * 16 := by
    rw [Int32.toInt_mul, hd, e16]
    exact Int.bmod_eq_of_le (by omega) (by omega)
  refine ⟨?_, hd, hm⟩
  rw [Int32.toInt_sub, hm]
  rw [Int.bmod_eq_of_le (by omega) (by omega)]
  omega
theorem kr_xor16 (x : Int32) : 0 ≤ x ^^^ 16 ↔ 0 ≤ x.toInt := by
  rw [Int32.le_iff_toInt_le]
  have e0 : (0 : Int32).toInt = 0 := by decide
  rw [e0]
  have h1 : (x ^^^ 16).toBitVec.msb = x.toBitVec.msb := by
    rw [Int32.toBitVec_xor, BitVec.msb_xor]
    have : (16 : Int32).toBitVec.msb = false := by decide
    rw [this]
    cases x.toBitVec.msb <;> rfl
  rw [BitVec.msb_eq_toInt, BitVec.msb_eq_toInt] at h1
  have h2 := decide_eq_decide.mp h1
  show 0 ≤ (x ^^^ 16).toBitVec.toInt ↔ 0 ≤ x.toBitVec.toInt
  omega
theorem kr_fl (x : Int32) : kf_fdiv x 16 = kg_fl x 16 := by
  obtain ⟨h1, h2, h3⟩ := kr_td x.toInt
  obtain ⟨r1, r2, r3⟩ := kr_remI x
  have e0 : (0 : Int32).toInt = 0 := by decide
  unfold kf_fdiv kg_fl
  by_cases hx : 0 ≤ x.toInt
  · rw [if_pos ((kr_xor16 x).mpr hx), if_pos]
    rw [Int32.le_iff_toInt_le, e0, r1]
    exact (h2 hx).1
  · rw [if_neg (fun q => hx ((kr_xor16 x).mp q))]
    have h3 := h3 (by omega)
    by_cases q : x / 16 * 16 = x
    · rw [if_pos q, if_pos]
      rw [Int32.le_iff_toInt_le, e0, r1]
      have := congrArg Int32.toInt q
      rw [r3] at this
      omega
    · rw [if_neg q, if_neg]
      rw [Int32.le_iff_toInt_le, e0, r1]
      intro q2
      exact q (Int32.toInt_inj.mp (by rw [r3]; omega))
theorem kr_flI {x : Int32} (h0 : -1073741824 < x.toInt) (h9 : x.toInt < 1073741824) : (kg_fl x 16).toInt = x.toInt / 16 := by
  obtain ⟨h1, h2, h3⟩ := kr_td x.toInt
  obtain ⟨r1, r2, r3⟩ := kr_remI x
  have e0 : (0 : Int32).toInt = 0 := by decide
  have e1 : (1 : Int32).toInt = 1 := by decide
  unfold kg_fl
  by_cases q : 0 ≤ x - x / 16 * 16
  · rw [if_pos q, r2]
    rw [Int32.le_iff_toInt_le, e0, r1] at q
    omega
  · rw [if_neg q, Int32.toInt_sub, r2, e1]
    rw [Int32.le_iff_toInt_le, e0, r1] at q
    rw [Int.bmod_eq_of_le (by omega) (by omega)]
    omega
theorem kr_levI {l e : Int32} (hl : kr_le l 5120000) (he : kr_le e 20000) : kr_le (l + kg_fl (256 * e - l) 16) 5120000 := by
  have i1 := hl.i (by decide)
  have i2 := he.i (by decide)
  have em : kr_le (256 * e) 5120000 := by
    obtain ⟨j, hj, rfl⟩ := he
    exact ⟨256 * j, by omega, by rw [show (256 : Int32) = nI 256 from rfl, pk_mul]⟩
  have e256 : (256 * e).toInt = 256 * e.toInt := by
    obtain ⟨j, hj, rfl⟩ := he
    rw [show (256 : Int32) = nI 256 from rfl, pk_mul, nI_toInt (by omega), nI_toInt (by omega)]
    omega
  have es := kr_subI em hl (by decide) (by decide)
  have ef := kr_flI (x := 256 * e - l) (by omega) (by omega)
  have ea : (l + kg_fl (256 * e - l) 16).toInt = l.toInt + (256 * e - l).toInt / 16 := by
    rw [Int32.toInt_add, ef]
    exact Int.bmod_eq_of_le (by omega) (by omega)
  exact kr_le_of (by decide) (by omega) (by omega)
theorem kr_decE (x : Int32) : (x - if x ≤ 0 then 0 else 1) = kf_dec x := by
  unfold kf_dec
  split
  · exact Int32.sub_zero x
  · rw [Int32.sub_eq_add_neg]
theorem kr_decI {x : Int32} {N : Nat} (hN : N < 2 ^ 31) (h : kr_le x N) : kr_le (kf_dec x) N := by
  obtain ⟨j, hj, rfl⟩ := h
  unfold kf_dec
  split
  · exact ⟨j, hj, rfl⟩
  · rename_i q
    cases j with
    | zero => exact absurd (nI_le (Nat.le_refl 0) (by omega)) q
    | succ j => exact ⟨j, by omega, pk_m1 j⟩
theorem kr_listenQ (h : kr_X s b (t 129) m fi fk) (hc : c < 8) (he : kr_le e 20000) : kr_X (kf_listenQ s b (nI c) e) b (kg_re t c e 129) m fi fk := by
  have hA := h.1
  have hl := h.2.2.2.2.2.2.2.1 c hc
  dsimp only [kf_listenQ, kg_re]
  rw [kf_at_nI (f := s (b + 6)) (by decide) hc, kf_put_nI _ _ (by decide) hc, kf_put_nI _ _ (by decide) hc, nI_clamp (by omega), kr_fl, hA.lev hc]
  have h1 := h.lev hc (kr_levI hl he)
  generalize kn_up s (b + 6) c (t 129 (25 + c) + kg_fl (256 * e - t 129 (25 + c)) 16) = s1 at h1 ⊢
  generalize kn_up t 129 (25 + c) (t 129 (25 + c) + kg_fl (256 * e - t 129 (25 + c)) 16) = t1 at h1 ⊢
  rw [h1.1.qui hc]
  have h2 := h1.qui (v := t1 129 (33 + c) + 1) hc
  generalize kn_up s1 (b + 8) c (t1 129 (33 + c) + 1) = s2 at h2 ⊢
  generalize kn_up t1 129 (33 + c) (t1 129 (33 + c) + 1) = t2 at h2 ⊢
  rw [kf_at_nI (by decide) hc, show kf_at (s2 (b + 2)) 8 2 = t2 129 2 from (kf_at_nI (k := 2) (by decide) (by decide)).trans (h2.1.set (by decide)), h2.1.qui hc]
  split
  · exact h2
  · rw [kf_put_nI _ _ (by decide) hc]
    have h3 := h2.qui (v := 0) hc
    generalize kn_up s2 (b + 8) c 0 = s3 at h3 ⊢
    generalize kn_up t2 129 (33 + c) 0 = t3 at h3 ⊢
    unfold kf_lower
    rw [kf_at_nI (by decide) hc, kf_put_nI _ _ (by decide) hc, nI_clamp (by omega), kr_decE, h3.1.fast hc]
    have hf := h3.2.2.2.2.2.2.1 c hc
    have h4 := h3.fast hc (kr_decI (by decide) hf)
    by_cases q : t3 129 (17 + c) ≤ 0
    · rw [if_pos q]
      have e1 : kf_dec (t3 129 (17 + c)) = t3 129 (17 + c) := if_pos q
      rw [e1, kn_up_id rfl]
      exact h3
    · rw [if_neg q]
      have e1 : kf_dec (t3 129 (17 + c)) = t3 129 (17 + c) + (-1) := if_neg q
      rw [e1] at h4 ⊢
      exact h4
end KRT

