/-! THE ROWS THAT A CONTROL CAN HAVE -/
/-- the row g alone, where the reference's row would be -/
def kx (g : Nat → Int32) : kn_S := fun a => if a = 129 then g else fun _ => 0
theorem kx_129 (g : Nat → Int32) : kx g 129 = g := if_pos rfl
theorem kx_ne (g : Nat → Int32) {a : Nat} (h : a ≠ 129) : kx g a = fun _ => 0 := if_neg h
theorem kx_of {t : kn_S} {g : Nat → Int32} (h : ∀ a, a ≠ 129 → t a = kx g a) : t = kx (t 129) := by
  funext a
  by_cases q : a = 129
  · subst q; rw [kx_129]
  · rw [h a q, kx_ne _ q, kx_ne _ q]
/-- how many of the first are x -/
def kw_cnt (kd : Nat → Nat) (x : Nat) : Nat → Nat
  | 0 => 0
  | j + 1 => kw_cnt kd x j + if kd j = x then 1 else 0
theorem kw_cnt_s (kd : Nat → Nat) (x j : Nat) : kw_cnt kd x (j + 1) = kw_cnt kd x j + if kd j = x then 1 else 0 := rfl
theorem kw_cnt_c {k1 k2 : Nat → Nat} {x : Nat} : ∀ j, (∀ i, i < j → k1 i = k2 i) → kw_cnt k1 x j = kw_cnt k2 x j
  | 0, _ => rfl
  | j + 1, h => by rw [kw_cnt_s, kw_cnt_s, kw_cnt_c j (fun i hi => h i (by omega)), h j (by omega)]
theorem kw_cnt_sh (kd : Nat → Nat) (x : Nat) : ∀ j, kw_cnt kd x (j + 1) = (if kd 0 = x then 1 else 0) + kw_cnt (fun i => kd (i + 1)) x j
  | 0 => by rw [kw_cnt_s]; show 0 + _ = _ + 0; omega
  | j + 1 => by rw [kw_cnt_s, kw_cnt_sh kd x j, kw_cnt_s]; omega
theorem kw_cnt_le (kd : Nat → Nat) (x : Nat) : ∀ j, kw_cnt kd x j ≤ j
  | 0 => Nat.le_refl _
  | j + 1 => by have := kw_cnt_le kd x j; rw [kw_cnt_s]; split <;> omega
theorem kw_cnt_all {kd : Nat → Nat} : ∀ j, (∀ i, i < j → kd i ≤ 4) → kw_cnt kd 0 j + kw_cnt kd 1 j + kw_cnt kd 2 j + kw_cnt kd 3 j + kw_cnt kd 4 j = j
  | 0, _ => rfl
  | j + 1, h => by
    have h1 := kw_cnt_all j (fun i hi => h i (by omega))
    have h2 := h j (by omega)
    rw [kw_cnt_s, kw_cnt_s, kw_cnt_s, kw_cnt_s, kw_cnt_s]
    have : kd j = 0 ∨ kd j = 1 ∨ kd j = 2 ∨ kd j = 3 ∨ kd j = 4 := by omega
    rcases this with q | q | q | q | q <;> rw [q] <;> simp <;> omega
/-- the log: its kinds, the numbers of its firings in order and below F, at most K knocks -/
def kw_L (g : Nat → Int32) (F K : Nat) : Prop := ∃ (lc : Nat) (kd fn : Nat → Nat), (lc ≤ 60 ∧ g 73 = nI lc) ∧ (∀ i, i < lc → g (74 + 3 * i) = nI (kd i) ∧ kd i ≤ 4 ∧ g (74 + 3 * i + 2) = nI (fn i) ∧ fn i < F) ∧ (∀ i, i + 1 < lc → fn i ≤ fn (i + 1)) ∧ kw_cnt kd 0 lc ≤ K
theorem kw_L.of {g g' : Nat → Int32} {F K F' K' : Nat} (h : kw_L g F K) (hg : ∀ k, 73 ≤ k → g' k = g k) (hF : F ≤ F') (hK : K ≤ K') : kw_L g' F' K' := by
  obtain ⟨lc, kd, fn, ⟨h1, h2⟩, h3, h4, h5⟩ := h
  refine ⟨lc, kd, fn, ⟨h1, by rw [hg 73 (by omega)]; exact h2⟩, fun i hi => ?_, h4, by omega⟩
  obtain ⟨e1, e2, e3, e4⟩ := h3 i hi
  exact ⟨by rw [hg _ (by omega)]; exact e1, e2, by rw [hg _ (by omega)]; exact e3, by omega⟩
set_option maxHeartbeats 1000000 in
theorem kw_L.logs {t : kn_S} {fi K kd0 : Nat} {n : Int32} (h : kw_L (t 129) (fi + 1) K) (e9 : t 129 9 = nI fi) (hk : kd0 ≤ 4) : kw_L (kg_logs t (nI kd0) n 129) (fi + 1) (K + if kd0 = 0 then 1 else 0) := by
  obtain ⟨lc, kd, fn, ⟨hlc, h73⟩, hi, hm, hc⟩ := h
  by_cases q : lc = 60
  · subst q
    have hg : kg_logs t (nI kd0) n = kg_lw (kg_log0 t) 251 (nI kd0) n := by
      unfold kg_logs
      rw [if_pos (show t 129 73 = 60 from h73)]
    have e59 : kg_log0 t 129 73 = nI 59 := by rw [kg_log0, kn_up_row]; rfl
    have e09 : kg_log0 t 129 9 = nI fi := by rw [kg_log0, kn_upk (by omega), kg_sh_lo t (by omega), e9]
    have esh : ∀ j, j < 177 → kg_log0 t 129 (74 + j) = t 129 (74 + j + 3) := fun j hj => by
      rw [kg_log0, kn_upk (by omega), kr_shAt, if_pos hj]
    rw [hg]
    refine ⟨60, fun i => if i = 59 then kd0 else kd (i + 1), fun i => if i = 59 then fi else fn (i + 1), ⟨Nat.le_refl _, ?_⟩, fun i hi9 => ?_, fun i hi9 => ?_, ?_⟩
    · rw [kg_lw_73 _ _ _ (by omega), e59]; rfl
    · rw [kr_lwAt _ (by omega) (by omega), kr_lwAt _ (by omega) (by omega), e09]
      by_cases qi : i = 59
      · subst qi
        refine ⟨?_, ?_, ?_, ?_⟩
        · rw [if_pos rfl]; rfl
        · show (if 59 = 59 then kd0 else _) ≤ 4
          rw [if_pos rfl]; exact hk
        · rw [if_neg (by omega), if_neg (by omega), if_pos rfl]; rfl
        · show (if 59 = 59 then fi else _) < _
          rw [if_pos rfl]; omega
      · have h9 := hi (i + 1) (by omega)
        have e1 := esh (3 * i) (by omega)
        have e3 := esh (3 * i + 2) (by omega)
        dsimp only
        rw [if_neg (by omega), if_neg (by omega), if_neg (by omega), if_neg (by omega), if_neg (by omega), if_neg (by omega), if_neg (by omega), if_neg (by omega)]
        refine ⟨?_, h9.2.1, ?_, h9.2.2.2⟩
        · rw [e1]; exact h9.1
        · exact (Eq.trans (congrArg (kg_log0 t 129) (by omega)) e3).trans h9.2.2.1
    · dsimp only
      rw [if_neg (show ¬ i = 59 by omega)]
      by_cases q2 : i + 1 = 59
      · rw [if_pos q2]
        have := (hi (i + 1) (by omega)).2.2.2
        omega
      · rw [if_neg q2]; exact hm (i + 1) (by omega)
    · have e1 : kw_cnt kd 0 60 = (if kd 0 = 0 then 1 else 0) + kw_cnt (fun i => kd (i + 1)) 0 59 := kw_cnt_sh kd 0 59
      have e2 : kw_cnt (fun i => if i = 59 then kd0 else kd (i + 1)) 0 60 = kw_cnt (fun i => if i = 59 then kd0 else kd (i + 1)) 0 59 + if kd0 = 0 then 1 else 0 := kw_cnt_s (fun i => if i = 59 then kd0 else kd (i + 1)) 0 59
      have e3 : kw_cnt (fun i => if i = 59 then kd0 else kd (i + 1)) 0 59 = kw_cnt (fun i => kd (i + 1)) 0 59 := kw_cnt_c 59 (fun i hi => if_neg (by omega))
      omega
  · have n60 : ¬ t 129 73 = 60 := by
      rw [h73]
      intro w
      exact q ((nI_eq (a := lc) (b := 60) (by omega) (by decide)).mp w)
    have hg : kg_logs t (nI kd0) n = kg_lw t (74 + 3 * lc) (nI kd0) n := by
      unfold kg_logs
      rw [if_neg n60, h73, nI_clamp (by omega)]
    rw [hg]
    refine ⟨lc + 1, fun i => if i = lc then kd0 else kd i, fun i => if i = lc then fi else fn i, ⟨by omega, ?_⟩, fun i hi9 => ?_, fun i hi9 => ?_, ?_⟩
    · rw [kg_lw_73 _ _ _ (by omega), h73, nI_1]
    · rw [kr_lwAt _ (by omega) (by omega), kr_lwAt _ (by omega) (by omega), e9]
      dsimp only
      by_cases qi : i = lc
      · subst qi
        rw [if_pos rfl, if_pos rfl, if_neg (by omega), if_neg (by omega), if_pos rfl, if_pos rfl]
        exact ⟨rfl, hk, rfl, by omega⟩
      · rw [if_neg (by omega), if_neg (by omega), if_neg (by omega), if_neg (by omega), if_neg (by omega), if_neg (by omega), if_neg (by omega), if_neg (by omega)]
        exact hi i (by omega)
    · dsimp only
      rw [if_neg (show ¬ i = lc by omega)]
      by_cases q2 : i + 1 = lc
      · rw [if_pos q2]
        have := (hi i (by omega)).2.2.2
        omega
      · rw [if_neg q2]; exact hm i (by omega)
    · have e2 : kw_cnt (fun i => if i = lc then kd0 else kd i) 0 (lc + 1) = kw_cnt (fun i => if i = lc then kd0 else kd i) 0 lc + if (if lc = lc then kd0 else kd lc) = 0 then 1 else 0 := kw_cnt_s (fun i => if i = lc then kd0 else kd i) 0 lc
      rw [if_pos (show lc = lc from rfl)] at e2
      have e3 : kw_cnt (fun i => if i = lc then kd0 else kd i) 0 lc = kw_cnt kd 0 lc := kw_cnt_c lc (fun i hi => if_neg (by omega))
      omega
def kw_ks (g : Nat → Int32) (m : Nat) : Nat := kr_sum (fun c => (g (41 + c)).toNatClampNeg) m
theorem kr_sum_c {f1 f2 : Nat → Nat} : ∀ j, (∀ i, i < j → f1 i = f2 i) → kr_sum f1 j = kr_sum f2 j
  | 0, _ => rfl
  | j + 1, h => by
    show kr_sum f1 j + f1 j = kr_sum f2 j + f2 j
    rw [kr_sum_c j (fun i hi => h i (by omega)), h j (by omega)]
/-- the bounds of a row but for the sensor's counts -/
def kw_J0 (g : Nat → Int32) (F K : Nat) : Prop :=
  (∀ k, k < 8 → (kn_least k).toInt ≤ (g k).toInt ∧ (g k).toInt ≤ (kn_most k).toInt) ∧ (∀ c, c < 8 → kr_le (g (17 + c)) 200) ∧ (∀ c, c < 8 → kr_le (g (33 + c)) 200) ∧ (g 16 = -1 ∨ ∃ cl, cl < 24 ∧ g 16 = nI cl) ∧ kw_L g F K
def kw_Se (g : Nat → Int32) (F : Nat) : Prop := ∃ lo go, g 13 = nI lo ∧ g 14 = nI go ∧ lo ≤ F ∧ go ≤ F ∧ (lo = 0 ∨ go = 0) ∧ (g 12 = 1 ∨ lo < 20)
def kw_J (g : Nat → Int32) (m F : Nat) : Prop := kw_J0 g F (kw_ks g m) ∧ kw_Se g F
theorem kw_J0.put {g : Nat → Int32} {F K k : Nat} {v : Int32} (h : kw_J0 g F K) (hk : k < 73) (p1 : k < 8 → (kn_least k).toInt ≤ v.toInt ∧ v.toInt ≤ (kn_most k).toInt) (p2 : 17 ≤ k → k < 25 → kr_le v 200) (p3 : 33 ≤ k → k < 41 → kr_le v 200) (p4 : k = 16 → v = -1 ∨ ∃ cl, cl < 24 ∧ v = nI cl) : kw_J0 (upd g k v) F K := by
  obtain ⟨h1, h2, h3, h4, h5⟩ := h
  refine ⟨fun j hj => ?_, fun c hc => ?_, fun c hc => ?_, ?_, h5.of (upd_hi hk) (Nat.le_refl _) (Nat.le_refl _)⟩
  · rcases upd_or g k v j with ⟨q, w⟩ | ⟨q, w⟩ <;> rw [w]
    · subst q; exact p1 hj
    · exact h1 j hj
  · rcases upd_or g k v (17 + c) with ⟨q, w⟩ | ⟨q, w⟩ <;> rw [w]
    · exact p2 (by omega) (by omega)
    · exact h2 c hc
  · rcases upd_or g k v (33 + c) with ⟨q, w⟩ | ⟨q, w⟩ <;> rw [w]
    · exact p3 (by omega) (by omega)
    · exact h3 c hc
  · rcases upd_or g k v 16 with ⟨q, w⟩ | ⟨q, w⟩ <;> rw [w]
    · exact p4 q.symm
    · exact h4
theorem kw_J0.free {g : Nat → Int32} {F K k : Nat} {v : Int32} (h : kw_J0 g F K) (hk : k < 73) (h8 : 8 ≤ k) (h16 : k ≠ 16) (h17 : k < 17 ∨ 25 ≤ k) (h33 : k < 33 ∨ 41 ≤ k) : kw_J0 (upd g k v) F K :=
  h.put hk (fun q => absurd q (by omega)) (fun _ _ => absurd h17 (by omega)) (fun _ _ => absurd h33 (by omega)) (fun q => absurd q h16)
theorem kw_J0.fast {g : Nat → Int32} {F K c : Nat} {v : Int32} (h : kw_J0 g F K) (hc : c < 8) (hv : kr_le v 200) : kw_J0 (upd g (17 + c) v) F K :=
  h.put (by omega) (fun q => absurd q (by omega)) (fun _ _ => hv) (fun _ _ => hv) (fun q => absurd q (by omega))
theorem kw_J0.qui {g : Nat → Int32} {F K c : Nat} {v : Int32} (h : kw_J0 g F K) (hc : c < 8) (hv : kr_le v 200) : kw_J0 (upd g (33 + c) v) F K :=
  h.put (by omega) (fun q => absurd q (by omega)) (fun _ _ => hv) (fun _ _ => hv) (fun q => absurd q (by omega))
theorem kw_J0.logs {t : kn_S} {fi K kd0 : Nat} {n : Int32} (h : kw_J0 (t 129) (fi + 1) K) (e9 : t 129 9 = nI fi) (hk : kd0 ≤ 4) : kw_J0 (kg_logs t (nI kd0) n 129) (fi + 1) (K + if kd0 = 0 then 1 else 0) := by
  obtain ⟨h1, h2, h3, h4, h5⟩ := h
  refine ⟨fun j hj => ?_, fun c hc => ?_, fun c hc => ?_, ?_, h5.logs e9 hk⟩
  · rw [kg_logs_lo _ _ _ (by omega)]; exact h1 j hj
  · rw [kg_logs_lo _ _ _ (by omega)]; exact h2 c hc
  · rw [kg_logs_lo _ _ _ (by omega)]; exact h3 c hc
  · rw [kg_logs_lo _ _ _ (by omega)]; exact h4
theorem kw_J0.more {g : Nat → Int32} {F K F' K' : Nat} (h : kw_J0 g F K) (hF : F ≤ F') (hK : K ≤ K') : kw_J0 g F' K' :=
  ⟨h.1, h.2.1, h.2.2.1, h.2.2.2.1, h.2.2.2.2.of (fun _ _ => rfl) hF hK⟩
-- the sensor
theorem kw_s3 {t : kn_S} {fi K : Nat} (h : kw_J0 (t 129) (fi + 1) K) (e9 : t 129 9 = nI fi) (hS : ∃ lo go, t 129 13 = nI lo ∧ t 129 14 = nI go ∧ lo ≤ fi + 1 ∧ go ≤ fi + 1 ∧ (lo = 0 ∨ go = 0)) (h12 : t 129 12 = 1 ∨ ∃ lo, t 129 13 = nI lo ∧ lo < 20) (hfi : fi + 1 < 2 ^ 31) : kw_J0 (kg_s3 t 129) (fi + 1) K ∧ kw_Se (kg_s3 t 129) (fi + 1) := by
  obtain ⟨lo, go, e1, e2, e3, e4, e5⟩ := hS
  have old : kw_Se (t 129) (fi + 1) := ⟨lo, go, e1, e2, e3, e4, e5, by
    rcases h12 with q | ⟨l2, q, q2⟩
    · exact Or.inl q
    · have : lo = l2 := (nI_eq (by omega) (by omega)).mp (e1.symm.trans q)
      exact Or.inr (by omega)⟩
  unfold kg_s3
  split
  · split
    · exact ⟨h, old⟩
    · rename_i q1 q2
      have hgo : lo = 0 := by
        rcases e5 with q | q
        · exact q
        · rw [e2, q] at q2
          exact absurd (nI_lt (a := 0) (b := 50) (by decide) (by decide)) q2
      have h2 : kw_J0 (kn_up t 129 12 0 129) (fi + 1) K := by rw [kn_up_row]; exact h.free (by decide) (by decide) (by decide) (by omega) (by omega)
      refine ⟨h2.logs (kd0 := 2) (by rw [kn_upk (by decide)]; exact e9) (by decide), lo, go, ?_, ?_, e3, e4, e5, Or.inr (by omega)⟩
      · rw [kg_logs_lo _ _ _ (by decide), kn_upk (by decide)]; exact e1
      · rw [kg_logs_lo _ _ _ (by decide), kn_upk (by decide)]; exact e2
  · exact ⟨h, old⟩
theorem kw_s2 {t : kn_S} {fi K : Nat} (h : kw_J0 (t 129) (fi + 1) K) (e9 : t 129 9 = nI fi) (h01 : kn_01 (t 129 12)) (hS : ∃ lo go, t 129 13 = nI lo ∧ t 129 14 = nI go ∧ lo ≤ fi + 1 ∧ go ≤ fi + 1 ∧ (lo = 0 ∨ go = 0)) (hfi : fi + 1 < 2 ^ 31) : kw_J0 (kg_s2 t 129) (fi + 1) K ∧ kw_Se (kg_s2 t 129) (fi + 1) := by
  have hS0 := hS
  obtain ⟨lo, go, e1, e2, e3, e4, e5⟩ := hS
  unfold kg_s2
  split
  · split
    · rename_i q1 q2
      refine kw_s3 h e9 hS0 (Or.inr ⟨lo, e1, ?_⟩) hfi
      rw [e1] at q2
      rcases Nat.lt_or_ge lo 20 with w | w
      · exact w
      · exact absurd q2 (nI_nlt (b := 20) w (by omega))
    · have h2 : kw_J0 (kn_up t 129 12 1 129) (fi + 1) K := by rw [kn_up_row]; exact h.free (by decide) (by decide) (by decide) (by omega) (by omega)
      refine ⟨h2.logs (kd0 := 1) (by rw [kn_upk (by decide)]; exact e9) (by decide), lo, go, ?_, ?_, e3, e4, e5, Or.inl ?_⟩
      · rw [kg_logs_lo _ _ _ (by decide), kn_upk (by decide)]; exact e1
      · rw [kg_logs_lo _ _ _ (by decide), kn_upk (by decide)]; exact e2
      · rw [kg_logs_lo _ _ _ (by decide)]; exact if_pos ⟨rfl, rfl⟩
  · rename_i q1
    refine kw_s3 h e9 hS0 (Or.inl ?_) hfi
    rcases h01 with q | q
    · exact absurd q q1
    · exact q
theorem kw_sen {t : kn_S} {fi K : Nat} (e : Int32) (h : kw_J0 (t 129) fi K) (hS : kw_Se (t 129) fi) (e9 : t 129 9 = nI fi) (h01 : kn_01 (t 129 12)) (hfi : fi + 1 < 2 ^ 31) : kw_J0 (kg_sen t e 129) (fi + 1) K ∧ kw_Se (kg_sen t e 129) (fi + 1) := by
  obtain ⟨lo, go, e1, e2, e3, e4, e5, -⟩ := hS
  unfold kg_sen
  refine kw_s2 ?_ (by rw [kg_s1_o e (by decide) (by decide)]; exact e9) (by rw [kg_s1_o e (by decide) (by decide)]; exact h01) ?_ hfi
  · have h2 := h.more (F' := fi + 1) (by omega) (Nat.le_refl _)
    unfold kg_s1
    split <;> rw [kn_up_row, kn_up_row] <;> exact (h2.free (by decide) (by decide) (by decide) (by omega) (by omega)).free (by decide) (by decide) (by decide) (by omega) (by omega)
  · unfold kg_s1
    split
    · refine ⟨0, go + 1, ?_, ?_, by omega, by omega, Or.inl rfl⟩
      · rw [kn_upk (by decide)]; exact if_pos ⟨rfl, rfl⟩
      · rw [show kn_up t 129 13 0 129 14 = nI go from (kn_upk (by decide)).trans e2, nI_1]; exact if_pos ⟨rfl, rfl⟩
    · refine ⟨lo + 1, 0, ?_, ?_, by omega, by omega, Or.inr rfl⟩
      · rw [kn_upk (by decide), e1, nI_1]; exact if_pos ⟨rfl, rfl⟩
      · exact if_pos ⟨rfl, rfl⟩
theorem kw_sen_o {t : kn_S} (e : Int32) {j : Nat} (h1 : j < 73) (h2 : j ≠ 12) (h3 : j ≠ 13) (h4 : j ≠ 14) : kg_sen t e 129 j = t 129 j := by
  unfold kg_sen
  rw [kg_s2_lo h2 h1, kg_s1_o e h3 h4]
theorem kw_t3_o {t : kn_S} (cl : Nat) (e : Int32) {j : Nat} (h1 : j < 73) (h2 : j < 12 ∨ 16 < j) : kg_t3 t cl e 129 j = t 129 j := by
  unfold kg_t3
  rw [kn_upk (by omega), kn_upk (by omega), kw_sen_o e h1 (by omega) (by omega) (by omega)]
theorem kw_t3 {t : kn_S} {fi K cl : Nat} (e : Int32) (h : kw_J0 (t 129) fi K) (hS : kw_Se (t 129) fi) (e9 : t 129 9 = nI fi) (h01 : kn_01 (t 129 12)) (hfi : fi + 1 < 2 ^ 31) (hcl : cl < 24) : kw_J0 (kg_t3 t cl e 129) (fi + 1) K ∧ kw_Se (kg_t3 t cl e 129) (fi + 1) := by
  obtain ⟨h1, h2⟩ := kw_sen e h hS e9 h01 hfi
  unfold kg_t3
  refine ⟨?_, ?_⟩
  · rw [kn_up_row, kn_up_row]
    exact (h1.free (by decide) (by decide) (by decide) (by omega) (by omega)).put (by decide) (fun q => absurd q (by decide)) (fun q => absurd q (by decide)) (fun q => absurd q (by decide)) (fun _ => Or.inr ⟨cl, hcl, rfl⟩)
  · obtain ⟨lo, go, e1, e2, e3, e4, e5, e6⟩ := h2
    refine ⟨lo, go, ?_, ?_, e3, e4, e5, ?_⟩
    · rw [kn_upk (by decide), kn_upk (by decide)]; exact e1
    · rw [kn_upk (by decide), kn_upk (by decide)]; exact e2
    · rw [kn_upk (by decide), kn_upk (by decide)]; exact e6
theorem kw_Se.of {g g' : Nat → Int32} {F : Nat} (h : kw_Se g F) (h12 : g' 12 = g 12) (h13 : g' 13 = g 13) (h14 : g' 14 = g 14) : kw_Se g' F := by
  obtain ⟨lo, go, e1, e2, e3, e4, e5, e6⟩ := h
  exact ⟨lo, go, h13.trans e1, h14.trans e2, e3, e4, e5, by rw [h12]; exact e6⟩
