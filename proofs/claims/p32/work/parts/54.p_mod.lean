-- a firing of the model, on both sides; many of them
theorem kr_L.of {s : kn_S} {l : Nat} {g g' : Nat → Int32} (h : kr_L s l g) (hg : ∀ k, k < 254 → g' k = g k) : kr_L s l g' := by
  obtain ⟨o, lc, h1, h2, h3⟩ := h
  refine ⟨o, lc, h1, ?_, fun i hi => ?_⟩
  · rw [hg 73 (by omega)]; exact h2
  · rw [hg _ (by omega), hg _ (by omega), hg _ (by omega)]; exact h3 i hi
theorem kr_R.of {s : kn_S} {b m fi : Nat} {g g' : Nat → Int32} (h : kr_R s b g m fi) (hg : ∀ k, k < 254 → g' k = g k) : kr_R s b g' m fi :=
  ⟨⟨h.1.1.of fun k hk => hg k (by omega), h.1.2.1.of hg, h.1.2.2.of fun k hk => hg k (by omega)⟩, h.2⟩
theorem kr_R.to {s s' : kn_S} {b m fi : Nat} {g : Nat → Int32} (h : kr_R s b g m fi) (hs : ∀ a, b ≤ a → a < b + 20 → s' a = s a) : kr_R s' b g m fi :=
  ⟨⟨h.1.1.to fun a h1 h2 j _ => by rw [hs a h1 (by omega)], h.1.2.1.to (fun a h1 h2 => hs a (by omega) (by omega)) (fun _ _ => rfl), h.1.2.2⟩, by rw [hs b (by omega) (by omega)]; exact h.2⟩
theorem kr_aI {x y : Int32} (h : -2147483648 ≤ x.toInt + y.toInt ∧ x.toInt + y.toInt < 2147483648) : (x + y).toInt = x.toInt + y.toInt := by
  rw [Int32.toInt_add]; exact Int.bmod_eq_of_le (by omega) (by omega)
theorem kr_sI {x y : Int32} (h : -2147483648 ≤ x.toInt - y.toInt ∧ x.toInt - y.toInt < 2147483648) : (x - y).toInt = x.toInt - y.toInt := by
  rw [Int32.toInt_sub]; exact Int.bmod_eq_of_le (by omega) (by omega)
theorem kr_mI {x y : Int32} (h : -2147483648 ≤ x.toInt * y.toInt ∧ x.toInt * y.toInt < 2147483648) : (x * y).toInt = x.toInt * y.toInt := by
  rw [Int32.toInt_mul]; exact Int.bmod_eq_of_le (by omega) (by omega)
theorem kr_within {v lo hi : Int32} (h : ¬ kf_within v lo hi = 0) : lo.toInt ≤ v.toInt ∧ v.toInt ≤ hi.toInt := by
  unfold kf_within at h
  by_cases h1 : v < lo
  · rw [if_pos h1] at h; exact absurd rfl h
  rw [if_neg h1] at h
  by_cases h2 : hi < v
  · rw [if_pos h2] at h; exact absurd rfl h
  rw [Int32.lt_iff_toInt_lt] at h1 h2
  omega
theorem kr_and {a b : Int32} (h : ¬ kf_and a b = 0) : ¬ a = 0 ∧ ¬ b = 0 := by
  unfold kf_and at h
  by_cases h1 : a = 0
  · rw [if_pos h1] at h; exact absurd rfl h
  rw [if_neg h1] at h
  by_cases h2 : b = 0
  · rw [if_pos h2] at h; exact absurd rfl h
  exact ⟨h1, h2⟩
theorem kr_isOp {x y : Int32} (h : ¬ kf_isOp x y = 0) : ∃ X Y : Nat, x = nI X ∧ y = nI Y ∧ 500 ≤ X ∧ X ≤ 7000 ∧ Y ≤ 100 := by
  obtain ⟨h1, h2⟩ := kr_and h
  have h1 := kr_within h1
  have h2 := kr_within h2
  have e1 : (500 : Int32).toInt = 500 := by decide
  have e2 : (7000 : Int32).toInt = 7000 := by decide
  have e3 : (0 : Int32).toInt = 0 := by decide
  have e4 : (100 : Int32).toInt = 100 := by decide
  obtain ⟨X, hX, hx⟩ := kr_le_of (N := 7000) (by decide) (show 0 ≤ x.toInt by omega) (by omega)
  obtain ⟨Y, hY, hy⟩ := kr_le_of (N := 100) (by decide) (show 0 ≤ y.toInt by omega) (by omega)
  refine ⟨X, Y, hx, hy, ?_, hX, hY⟩
  rw [hx, nI_toInt (by omega)] at h1
  omega
theorem kf_min_nI {a b : Nat} (ha : a < 2 ^ 31) (hb : b < 2 ^ 31) : kf_min (nI a) (nI b) = nI (min a b) := by
  unfold kf_min
  by_cases q : b < a
  · rw [if_pos (nI_lt q ha)]; exact congrArg nI (by omega)
  · rw [if_neg (nI_nlt (by omega) hb)]; exact congrArg nI (by omega)
theorem kr_cell {x y : Int32} (h : ¬ kf_isOp x y = 0) : ∃ cl : Nat, kf_cell x y = nI cl ∧ cl < 24 := by
  obtain ⟨X, Y, rfl, rfl, h1, h2, h3⟩ := kr_isOp h
  refine ⟨4 * min ((X - 500) / 1000) 5 + min (Y / 25) 3, ?_, by omega⟩
  unfold kf_cell
  rw [show (500 : Int32) = nI 500 from rfl, pk_sub h1, show (1000 : Int32) = nI 1000 from rfl, pk_div (by omega) (by decide) (by decide), show (5 : Int32) = nI 5 from rfl, kf_min_nI (by omega) (by omega), show (25 : Int32) = nI 25 from rfl, pk_div (by omega) (by decide) (by decide), show (3 : Int32) = nI 3 from rfl, kf_min_nI (by omega) (by omega), show (4 : Int32) = nI 4 from rfl, pk_mul, nI_add]
theorem kr_rnd {x : Int32} (h : kr_le x 2147483647) : kr_le (kf_rnd x) 2147483647 := by
  obtain ⟨j, hj, rfl⟩ := h
  refine ⟨(1103515245 * j + 12345) % 2147483648, by omega, ?_⟩
  unfold kf_rnd
  rw [nI_l (by omega), show (1103515245 : Int64) = lN 1103515245 from rfl, lN_mul, show (12345 : Int64) = lN 12345 from rfl, lN_add, show (2147483648 : Int64) = lN 2147483648 from rfl, pk_lRem (by omega) (by decide) (by decide), lN_i]
theorem kr_max0 (z : Int32) : kf_max z 0 = if z ≤ 0 then 0 else z := by
  unfold kf_max
  have e0 : (0 : Int32).toInt = 0 := by decide
  by_cases q : z < 0
  · rw [if_pos q, if_pos]
    rw [Int32.lt_iff_toInt_lt] at q; rw [Int32.le_iff_toInt_le]; omega
  · rw [if_neg q]
    by_cases q2 : z ≤ 0
    · rw [if_pos q2]
      rw [Int32.lt_iff_toInt_lt] at q; rw [Int32.le_iff_toInt_le] at q2
      exact Int32.toInt_inj.mp (by omega)
    · rw [if_neg q2]
section KRM
variable {s t : kn_S} {b m fi cl : Nat} {x y w : Int32}
theorem kr_s15 (h : kr_R s b (t 129) m fi) : kr_R (kf_s15 s b) b (kg_rn t 129) m fi := by
  unfold kf_s15 kg_rn
  rw [h.1.1.see]
  refine ⟨h.1.see (kr_rnd h.1.2.2.2.2.2.1.2.1), ?_⟩
  rw [kn_upk (by decide)]
  exact h.2
theorem kr_ret {c : Nat} (hX : kr_X s b (t 129) m fi fi) (hc : c < 8) (hcl : cl < 24) : kf_ret s b (nI c) (nI cl) = kg_ret t c cl := by
  have e7 : kf_at (s (b + 2)) 8 7 = t 129 7 := (kf_at_nI (k := 7) (by decide) (by decide)).trans (hX.1.set (by decide))
  have e3 : kf_at (s (b + 2)) 8 3 = t 129 3 := (kf_at_nI (k := 3) (by decide) (by decide)).trans (hX.1.set (by decide))
  unfold kf_ret kg_ret
  rw [e7, e3, kf_at_nI (by decide) hc, kf_at_nI (by decide) hcl, hX.1.fast hc, hX.1.lea hcl, hX.1.fau]
  rcases hX.2.2.2.2.1.2 with q | q
  · rw [q]; rfl
  · rw [q]; rfl
theorem kr_retI {c : Nat} (hI : kr_I (t 129) m fi fi) (hc : c < 8) (hcl : cl < 24) : 0 ≤ (kg_ret t c cl).toInt ∧ (kg_ret t c cl).toInt ≤ 1000 := by
  have i1 := hI.2.2.2.2.1 c hc
  have i2 := hI.2.2.2.1.2.2 7 (by decide)
  have i3 := hI.2.2.2.2.2.2.1 cl hcl
  have i4 := (hI.2.2.2.1.2.2 3 (by decide)).i (by decide)
  have i5 : kr_le (if t 129 12 = 1 then t 129 7 else t 129 (17 + c)) 1000 := by split; exact i2; exact i1
  have i6 := kr_addI i5 i3 (by decide) (by decide)
  have i7 := i5.i (by decide)
  have i8 := i3.i (by decide)
  unfold kg_ret
  rw [kf_min_i]
  omega
theorem kr_feI (hI : kr_I (t 129) m fi fi) (hop : ¬ kf_isOp x y = 0) (hw : ¬ kf_within w 80 110 = 0) (hcl : cl < 24) (hfi : fi < 2 ^ 31) : kr_le (kg_fe t m cl x y w) 20000 := by
  have hm2 : 2 ≤ m ∧ m ≤ 8 := hI.1.2
  have hc : kg_cc t m < 8 := Nat.lt_of_lt_of_le (Nat.mod_lt _ (by omega)) hm2.2
  obtain ⟨X, Y, rfl, rfl, h1, h2, h3⟩ := kr_isOp hop
  have hw := kr_within hw
  have e80 : (80 : Int32).toInt = 80 := by decide
  have e110 : (110 : Int32).toInt = 110 := by decide
  have e95 : (95 : Int32).toInt = 95 := by decide
  have e8 : (8 : Int32).toInt = 8 := by decide
  have e12 : (12 : Int32).toInt = 12 := by decide
  have e0 : (0 : Int32).toInt = 0 := by decide
  have hr := kr_retI (c := kg_cc t m) hI hc hcl
  have hov : (kg_ov t m cl (nI X) (nI Y) w).toInt ≤ 1000 := by
    unfold kg_ov kf_klim
    rw [show (50 : Int32) = nI 50 from rfl, pk_div (by omega) (by decide) (by decide), show (100 : Int32) = nI 100 from rfl, nI_add, show (60 : Int32) = nI 60 from rfl, pk_div (by omega) (by decide) (by decide), show (150 : Int32) = nI 150 from rfl, nI_add, show (3 : Int32) = nI 3 from rfl, pk_mul, show (2 : Int32) = nI 2 from rfl, pk_div (by omega) (by decide) (by decide)]
    have a1 : (nI (100 + X / 50)).toInt = 100 + X / 50 := by rw [nI_toInt (by omega)]; omega
    have a2 : (nI Y).toInt = Y := nI_toInt (by omega)
    have a3 : (nI (150 + X / 60)).toInt = 150 + X / 60 := by rw [nI_toInt (by omega)]; omega
    have a4 : (nI (Y * 3 / 2)).toInt = ((Y * 3 / 2 : Nat) : Int) := nI_toInt (by omega)
    have b1 : (nI (100 + X / 50) - nI Y).toInt = 100 + X / 50 - Y := by rw [kr_sI (by omega), a1, a2]
    have b2 : (nI (100 + X / 50) - nI Y - kg_ret t (kg_cc t m) cl).toInt = 100 + X / 50 - Y - (kg_ret t (kg_cc t m) cl).toInt := by rw [kr_sI (by omega), b1]
    have b3 : (w - 95).toInt = w.toInt - 95 := by rw [kr_sI (by omega), e95]
    have b4 : ((w - 95) * 8).toInt = (w.toInt - 95) * 8 := by rw [kr_mI (by rw [b3, e8]; omega), b3, e8]
    have b5 : (nI (150 + X / 60) - nI (Y * 3 / 2)).toInt = 150 + X / 60 - ((Y * 3 / 2 : Nat) : Int) := by rw [kr_sI (by omega), a3, a4]
    have b6 : (nI (150 + X / 60) - nI (Y * 3 / 2) + (w - 95) * 8).toInt = 150 + X / 60 - ((Y * 3 / 2 : Nat) : Int) + (w.toInt - 95) * 8 := by rw [kr_aI (by omega), b5, b4]
    rw [kr_sI (by omega), b2, b6]
    omega
  have hM : kr_le (if kg_ov t m cl (nI X) (nI Y) w ≤ 0 then 0 else kg_ov t m cl (nI X) (nI Y) w) 1000 := by
    split
    · exact ⟨0, by omega, rfl⟩
    · rename_i q
      rw [Int32.le_iff_toInt_le, e0] at q
      exact kr_le_of (by decide) (by omega) (by omega)
  obtain ⟨M, hM1, hM2⟩ := hM
  obtain ⟨S, hS, eS⟩ := hI.2.2.2.1.2.1
  unfold kg_fe
  split
  · exact ⟨0, by omega, rfl⟩
  · rw [hM2, eS, show (20 : Int32) = nI 20 from rfl, pk_div (by omega) (by decide) (by decide), nI_add, show (65536 : Int32) = nI 65536 from rfl, pk_div (by omega) (by decide) (by decide), show (40 : Int32) = nI 40 from rfl, pk_rem (by omega) (by decide) (by decide), nI_add, show (12 : Int32) = nI 12 from rfl, pk_mul, nI_add, show (20000 : Int32) = nI 20000 from rfl, kf_min_nI (by omega) (by decide)]
    exact ⟨_, by omega, rfl⟩
theorem kr_me (h : kr_R s b (t 129) m fi) (hce : kf_cell x y = nI cl) (hcl : cl < 24) (hfi : fi < 2 ^ 31) : kf_me s b x y w = kg_fe t m cl x y w := by
  obtain ⟨hX, hn⟩ := h
  have hm2 : 2 ≤ m ∧ m ≤ 8 := hX.2.2.1.2
  have hc : fi % m < 8 := Nat.lt_of_lt_of_le (Nat.mod_lt _ (by omega)) hm2.2
  have hcc : kg_cc t m = fi % m := by unfold kg_cc; rw [hX.2.2.2.1, nI_clamp (by omega)]
  unfold kf_me kg_fe kf_en kf_adv kf_badv kg_ov
  rw [hn, hcc, hce, kr_ret hX hc hcl, kr_max0, hX.1.bro, hX.1.see]
  rcases hX.2.2.2.2.1.1 with q | q
  · rw [q, if_pos (show (0 : Int32) = 0 from rfl), if_neg (show ¬ (0 : Int32) = 1 by decide)]
  · rw [q, if_neg (show ¬ (1 : Int32) = 0 by decide), if_pos (show (1 : Int32) = 1 from rfl)]
/-- what a call of the model's firings asks -/
def kr_op (x y w : Int32) (cl : Nat) : Prop := ¬ kf_isOp x y = 0 ∧ ¬ kf_within w 80 110 = 0 ∧ kf_cell x y = nI cl ∧ cl < 24
theorem kr_mod (h : kr_R s b (t 129) m fi) (ho : kr_op x y w cl) (hfi : fi + 1 < 2 ^ 31) :
    kr_R (kf_mod s b m x y w) b (kg_fs t m cl x y w 129) m (fi + 1) ∧ kf_mo s b x y w = kg_fa t m cl x y w ∧ kg_fp t m cl x y w := by
  have h1 := kr_s15 h
  obtain ⟨o1, o2, o3, o4⟩ := ho
  have e1 := kr_me (w := w) h1 o3 o4 (by omega)
  unfold kf_mod kf_mo kg_fs kg_fa kg_fp
  rw [e1]
  exact kr_treat h1 (kr_feI h1.1.2.2 o1 o2 o4 (by omega)) o3 o4 hfi
theorem kr_drv (h : kr_R s b (t 129) m fi) (ho : kr_op x y w cl) : ∀ j, fi + j < 2 ^ 31 →
    kr_R (kf_drv b m x y w s j).2 b ((kg_dr t m cl x y w j).2 129) m (fi + j) ∧ (kf_drv b m x y w s j).1 = (kg_dr t m cl x y w j).1 ∧ ∀ i, i < j → kg_fp (kg_dr t m cl x y w i).2 m cl x y w
  | 0, _ => ⟨h, rfl, fun i hi => absurd hi (by omega)⟩
  | j + 1, hj => by
    obtain ⟨h1, h2, h3⟩ := kr_drv h ho j (by omega)
    obtain ⟨q1, q2, q3⟩ := kr_mod h1 ho (by omega)
    refine ⟨q1, ?_, fun i hi => ?_⟩
    · show (if kf_mo (kf_drv b m x y w s j).2 b x y w = 1 then (kf_drv b m x y w s j).1 + 1 else (kf_drv b m x y w s j).1) = (kg_dr t m cl x y w j).1 + (if kg_fa (kg_dr t m cl x y w j).2 m cl x y w = 1 then 1 else 0)
      rw [q2, h2]
      split
      · rfl
      · exact (Int32.add_zero _).symm
    · by_cases e : i = j
      · subst e; exact q3
      · exact h3 i (by omega)
theorem kr_it (h : kr_R s b (t 129) m fi) (ho : kr_op x y w cl) : ∀ j, fi + j + 1 < 2 ^ 31 → kr_I (kg_it t m cl x y w j 129) m (fi + j) (fi + j) ∧ kg_fp (kg_it t m cl x y w j) m cl x y w := by
  have key : ∀ j, fi + j < 2 ^ 31 → ∃ s', kr_R s' b (kg_it t m cl x y w j 129) m (fi + j) := by
    intro j
    induction j with
    | zero => intro _; exact ⟨s, h⟩
    | succ j ih =>
      intro hj
      obtain ⟨s', hs'⟩ := ih (by omega)
      exact ⟨_, (kr_mod hs' ho (by omega)).1⟩
  intro j hj
  obtain ⟨s', hs'⟩ := key j (by omega)
  exact ⟨hs'.1.2.2, (kr_mod hs' ho (by omega)).2.2⟩
theorem kr_qa {t0 : kn_S} {want : Int32} (hm : 2 ≤ m ∧ m ≤ 8) (hwant : want = 5 * nI m) (ho : kr_op x y w cl) : ∀ (r j q : Nat) (s : kn_S), kr_R s 21 (kg_it t0 m cl x y w j 129) m (fi + j) → fi + j + r < 2 ^ 31 → q < 5 * m →
    (kf_qa m x y w want r (j + 1) s (nI q)).1 = if (kg_qL t0 m cl x y w r j (nI q)).2 = 5 * nI m then nI (kg_qL t0 m cl x y w r j (nI q)).1 else -1
  | 0, j, q, s, h, hr, hq => by
    have e5 : (5 : Int32) * nI m = nI (5 * m) := pk_mul 5 m
    show (-1 : Int32) = if nI q = 5 * nI m then nI j else -1
    rw [e5, if_neg]
    intro e
    have := (nI_eq (by omega) (by omega)).mp e
    omega
  | r + 1, j, q, s, h, hr, hq => by
    have e5 : (5 : Int32) * nI m = nI (5 * m) := pk_mul 5 m
    obtain ⟨q1, q2, q3⟩ := kr_mod h ho (by omega)
    unfold kf_qa kg_qL
    rw [if_neg (show ¬ 5 * nI m ≤ nI q by rw [e5]; exact nI_ge hq (by omega)), q2]
    have hq' : ∃ q' : Nat, q' ≤ 5 * m ∧ (if kg_fa (kg_it t0 m cl x y w j) m cl x y w = 1 then 0 else nI q + 1) = nI q' := by
      split
      · exact ⟨0, by omega, rfl⟩
      · exact ⟨q + 1, by omega, nI_1 q⟩
    obtain ⟨q', hq1, hq2⟩ := hq'
    rw [hq2, hwant, e5]
    by_cases hlt : q' < 5 * m
    · rw [if_pos (nI_lt hlt (by omega))]
      have := kr_qa hm hwant ho r (j + 1) q' _ q1 (by omega) hlt
      rw [hwant, e5] at this
      exact this
    · rw [if_neg (nI_nlt (by omega) (by omega))]
      obtain rfl : q' = 5 * m := by omega
      have hst : kg_qL t0 m cl x y w r (j + 1) (nI (5 * m)) = (j + 1, nI (5 * m)) := by
        cases r with
        | zero => rfl
        | succ r => unfold kg_qL; rw [e5, if_pos (nI_le (Nat.le_refl _) (by omega))]
      rw [hst, if_pos rfl]
theorem kf_qa_ne {want : Int32} {a : Nat} (ha : a < 21 ∨ 41 ≤ a) : ∀ (r j : Nat) (s : kn_S) (q : Int32), (kf_qa m x y w want r j s q).2 a = s a
  | 0, _, _, _ => rfl
  | r + 1, j, s, q => by
    unfold kf_qa
    generalize (if kf_mo s 21 x y w = 1 then (0 : Int32) else q + 1) = q1
    split
    · rw [kf_qa_ne ha r, kf_mod_ne _ _ _ _ _ (by omega)]
    · exact kf_mod_ne _ _ _ _ _ (by omega)
theorem kf_low_ne {cnt a : Nat} (ha : a < 21 ∨ 41 ≤ a) : ∀ (r oc : Nat) (s : kn_S), (kf_low m cnt x y r oc s).2 a = s a
  | 0, _, _ => rfl
  | r + 1, oc, s => by
    unfold kf_low
    split
    · rw [kf_low_ne ha r, kf_sqL_ne m x y _ ha, kf_cpySt_ne _ (by omega)]
    · show (kf_sqL m x y (nI oc) cnt (kf_cpySt s 21 1)).2 a = s a
      rw [kf_sqL_ne m x y _ ha, kf_cpySt_ne _ (by omega)]
theorem kr_sq {t0 : kn_S} (ho : kr_op x y w cl) : ∀ (r j : Nat) (s : kn_S), kr_R s 21 (kg_it t0 m cl x y w j 129) m (fi + j) → fi + j + r < 2 ^ 31 →
    ((kf_sqL m x y w r s).1 = 0 ↔ ¬ (kg_lL t0 m cl x y w r j).1 = j + r)
  | 0, j, s, h, hr => ⟨fun q => absurd (show (1 : Int32) = 0 from q) (by decide), fun q => absurd rfl q⟩
  | r + 1, j, s, h, hr => by
    obtain ⟨q1, q2, q3⟩ := kr_mod h ho (by omega)
    unfold kf_sqL kg_lL
    rw [q2]
    split
    · exact ⟨fun _ => by show ¬ j = j + (r + 1); omega, fun _ => rfl⟩
    · have := kr_sq ho r (j + 1) _ q1 (by omega)
      rw [this]
      omega
end KRM

