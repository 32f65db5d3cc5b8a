/-! THE WORLD: the control's row, and the rows that were saved, the latest first -/
abbrev kw_G : Type := (Nat → Int32) × Nat × Nat
def kw_H (s : kn_S) (B o k : Nat) (l : List kw_G) : Prop := ((s 41 1 = nI o ∧ o < 4) ∧ (s 41 2 = nI k ∧ k ≤ 4) ∧ l.length = k) ∧ (∀ (j : Nat) (q : kw_G), l[j]? = some q → kr_R s (43 + 20 * ((o + (k - 1 - j)) % 4)) q.1 q.2.1 q.2.2 ∧ q.2.2 ≤ B ∧ kw_J q.1 q.2.1 q.2.2) ∧ ∀ r, r < 4 → kn_01 (s (43 + 20 * r) 12) ∧ kn_01 (s (43 + 20 * r) 16)
theorem kw_H.to {s s' : kn_S} {B B' o k : Nat} {l : List kw_G} (h : kw_H s B o k l) (hB : B ≤ B') (hs : ∀ a, 41 ≤ a → a < 123 → s' a = s a) : kw_H s' B' o k l := by
  obtain ⟨⟨h1, h2, h3⟩, h4, h5⟩ := h
  refine ⟨⟨?_, ?_, h3⟩, fun j q hq => ?_, fun r hr => ?_⟩
  · rw [hs 41 (by omega) (by omega)]; exact h1
  · rw [hs 41 (by omega) (by omega)]; exact h2
  · obtain ⟨w1, w2, w3⟩ := h4 j q hq
    have hp : (o + (k - 1 - j)) % 4 < 4 := Nat.mod_lt _ (by omega)
    exact ⟨w1.to fun a q1 q2 => hs a (by omega) (by omega), by omega, w3⟩
  · rw [hs (43 + 20 * r) (by omega) (by omega)]; exact h5 r hr
def kw_push (q : kw_G) (l : List kw_G) : List kw_G := (q :: l).take 4
theorem kw_push_e (q : kw_G) (l : List kw_G) : kw_push q l = q :: l.take 3 := rfl
theorem kw_take0 {x p : kw_G} {l : List kw_G} (h : (kw_push x l)[0]? = some p) : p = x := by
  rw [kw_push_e] at h
  simpa using h.symm
theorem kw_takeS {x p : kw_G} {l : List kw_G} {j : Nat} (h : (kw_push x l)[j + 1]? = some p) : j < 3 ∧ l[j]? = some p := by
  rw [kw_push_e, List.getElem?_cons_succ, List.getElem?_take] at h
  split at h
  · rename_i w; exact ⟨w, h⟩
  · cases h
theorem kw_push_len (x : kw_G) (l : List kw_G) : (kw_push x l).length = min 3 l.length + 1 := by
  rw [kw_push_e, List.length_cons, List.length_take]
theorem kw_save {s : kn_S} {B o k m fi : Nat} {l : List kw_G} {g : Nat → Int32} (h : kw_H s B o k l) (hR : kr_R s 1 g m fi) (hfi : fi ≤ B) (hJ : kw_J g m fi) : ∃ o' k', kw_H (kf_keepH s 41 1 o k) B o' k' (kw_push (g, m, fi) l) := by
  obtain ⟨⟨⟨h1, ho⟩, ⟨h2, hk⟩, h3⟩, h4, h5⟩ := h
  have hp : (o + k) % 4 < 4 := Nat.mod_lt _ (by omega)
  have hcp : kr_R (kf_cpySt s (43 + 20 * ((o + k) % 4)) 1) (43 + 20 * ((o + k) % 4)) g m fi := kr_cpy (by omega) hR
  have hcn : ∀ a, a < 43 + 20 * ((o + k) % 4) ∨ 43 + 20 * ((o + k) % 4) + 20 ≤ a → kf_cpySt s (43 + 20 * ((o + k) % 4)) 1 a = s a := fun a ha => kf_cpySt_ne s ha
  have c12 : ∀ r, r < 4 → kn_01 (kf_cpySt s (43 + 20 * ((o + k) % 4)) 1 (43 + 20 * r) 12) ∧ kn_01 (kf_cpySt s (43 + 20 * ((o + k) % 4)) 1 (43 + 20 * r) 16) := by
    intro r hr
    by_cases q : r = (o + k) % 4
    · rw [q, hcp.1.1.fau, hcp.1.1.bro]
      exact ⟨hcp.1.2.2.2.2.1.2, hcp.1.2.2.2.2.1.1⟩
    · rw [hcn _ (by omega)]
      exact h5 r hr
  rw [kr_keepE h1 ho h2 hk]
  by_cases q : k = 4
  · subst q
    rw [if_pos rfl]
    have hup : ∀ a, 43 ≤ a → kn_up (kf_cpySt s (43 + 20 * ((o + 4) % 4)) 1) 41 1 (nI ((o + 1) % 4)) a = kf_cpySt s (43 + 20 * ((o + 4) % 4)) 1 a := fun a ha => kn_up_ne _ _ _ (by omega)
    refine ⟨(o + 1) % 4, 4, ⟨⟨?_, Nat.mod_lt _ (by omega)⟩, ⟨?_, by omega⟩, ?_⟩, fun j p hp9 => ?_, fun r hr => ?_⟩
    · rw [kn_up_row]; rfl
    · rw [kn_upk (by decide), hcn 41 (by omega), h2]
    · rw [kw_push_len, h3]; rfl
    · rcases j with _ | j
      · obtain rfl := kw_take0 hp9
        have ep : ((o + 1) % 4 + (4 - 1 - 0)) % 4 = (o + 4) % 4 := by omega
        rw [ep]
        exact ⟨hcp.to fun a w1 w2 => hup a (by omega), hfi, hJ⟩
      · obtain ⟨hj, hl⟩ := kw_takeS hp9
        obtain ⟨w1, w2, w3⟩ := h4 j p hl
        have ep : ((o + 1) % 4 + (4 - 1 - (j + 1))) % 4 = (o + (4 - 1 - j)) % 4 := by omega
        have np : (o + (4 - 1 - j)) % 4 ≠ (o + 4) % 4 := by omega
        have lp : (o + (4 - 1 - j)) % 4 < 4 := Nat.mod_lt _ (by omega)
        rw [ep]
        exact ⟨w1.to fun a q1 q2 => by rw [hup a (by omega), hcn a (by omega)], w2, w3⟩
    · rw [kn_up_ne _ _ _ (by omega)]
      exact c12 r hr
  · rw [if_neg q]
    have hup : ∀ a, 43 ≤ a → kn_up (kf_cpySt s (43 + 20 * ((o + k) % 4)) 1) 41 2 (nI (k + 1)) a = kf_cpySt s (43 + 20 * ((o + k) % 4)) 1 a := fun a ha => kn_up_ne _ _ _ (by omega)
    refine ⟨o, k + 1, ⟨⟨?_, ho⟩, ⟨?_, by omega⟩, ?_⟩, fun j p hp9 => ?_, fun r hr => ?_⟩
    · rw [kn_upk (by decide), hcn 41 (by omega), h1]
    · rw [kn_up_row]; rfl
    · rw [kw_push_len, h3]; omega
    · rcases j with _ | j
      · obtain rfl := kw_take0 hp9
        have ep : (o + (k + 1 - 1 - 0)) % 4 = (o + k) % 4 := by omega
        rw [ep]
        exact ⟨hcp.to fun a w1 w2 => hup a (by omega), hfi, hJ⟩
      · obtain ⟨hj, hl⟩ := kw_takeS hp9
        have hjk : j < k := by
          have := (List.getElem?_eq_some_iff.mp hl).1
          omega
        obtain ⟨w1, w2, w3⟩ := h4 j p hl
        have ep : (o + (k + 1 - 1 - (j + 1))) % 4 = (o + (k - 1 - j)) % 4 := by omega
        have np : (o + (k - 1 - j)) % 4 ≠ (o + k) % 4 := by omega
        have lp : (o + (k - 1 - j)) % 4 < 4 := Nat.mod_lt _ (by omega)
        rw [ep]
        exact ⟨w1.to fun a q1 q2 => by rw [hup a (by omega), hcn a (by omega)], w2, w3⟩
    · rw [kn_up_ne _ _ _ (by omega)]
      exact c12 r hr
theorem kw_undoH {s : kn_S} {B o w m fi : Nat} {l : List kw_G} {g : Nat → Int32} (h : kw_H s B o (w + 1) ((g, m, fi) :: l)) : (kr_R (kf_restH s 41 1 o (w + 1)) 1 g m fi ∧ fi ≤ B ∧ kw_J g m fi) ∧ kw_H (kf_restH s 41 1 o (w + 1)) B o w l ∧ kf_restH s 41 1 o (w + 1) 41 2 = nI w ∧ ∀ a, 123 ≤ a → kf_restH s 41 1 o (w + 1) a = s a := by
  obtain ⟨⟨⟨h1, ho⟩, ⟨h2, hk⟩, h3⟩, h4, h5⟩ := h
  have hr : kf_restH s 41 1 o (w + 1) = kf_cpySt (kn_up s 41 2 (nI w)) 1 (43 + 20 * ((o + w) % 4)) := by
    unfold kf_restH
    rw [if_neg (by rw [h2]; exact nI_nle (by omega) (by omega)), h2, nI_pred]
    rfl
  have hp : (o + w) % 4 < 4 := Nat.mod_lt _ (by omega)
  have hcn : ∀ a, 21 ≤ a → kf_cpySt (kn_up s 41 2 (nI w)) 1 (43 + 20 * ((o + w) % 4)) a = kn_up s 41 2 (nI w) a := fun a ha => kf_cpySt_ne _ (by omega)
  rw [hr]
  obtain ⟨r1, r2, r3⟩ := h4 0 (g, m, fi) rfl
  have ep : (o + (w + 1 - 1 - 0)) % 4 = (o + w) % 4 := by omega
  rw [ep] at r1
  have r4 : kr_R (kn_up s 41 2 (nI w)) (43 + 20 * ((o + w) % 4)) g m fi := r1.to fun a w1 w2 => kn_up_ne _ _ _ (by omega)
  refine ⟨⟨kr_cpy (b := 1) (by omega) r4, r2, r3⟩, ⟨⟨⟨?_, ho⟩, ⟨?_, by omega⟩, ?_⟩, fun j p hp9 => ?_, fun r hr => ?_⟩, ?_, fun a ha => ?_⟩
  · rw [hcn 41 (by omega), kn_upk (by decide), h1]
  · rw [hcn 41 (by omega), kn_up_row]; rfl
  · rw [List.length_cons] at h3; omega
  · have hjk : j < w := by
      have := (List.getElem?_eq_some_iff.mp hp9).1
      rw [List.length_cons] at h3
      omega
    obtain ⟨w1, w2, w3⟩ := h4 (j + 1) p (by rw [List.getElem?_cons_succ]; exact hp9)
    have ep2 : (o + (w + 1 - 1 - (j + 1))) % 4 = (o + (w - 1 - j)) % 4 := by omega
    have lp : (o + (w - 1 - j)) % 4 < 4 := Nat.mod_lt _ (by omega)
    rw [ep2] at w1
    exact ⟨w1.to fun a q1 q2 => by rw [hcn a (by omega), kn_up_ne _ _ _ (by omega)], w2, w3⟩
  · rw [hcn _ (by omega), kn_up_ne _ _ _ (by omega)]
    exact h5 r hr
  · rw [hcn 41 (by omega), kn_up_row]; rfl
  · rw [hcn a (by omega), kn_up_ne _ _ _ (by omega)]
def kw_W (s : kn_S) (B : Nat) (g : Nat → Int32) (m fi : Nat) (l : List kw_G) : Prop := (kr_R s 1 g m fi ∧ fi ≤ B ∧ kw_J g m fi) ∧ ∃ o k len, kw_H s B o k l ∧ s 123 2 = nI len ∧ len ≤ 120
theorem kw_W.to {s s' : kn_S} {B B' m fi : Nat} {l : List kw_G} {g : Nat → Int32} (h : kw_W s B g m fi l) (hB : B ≤ B') (hs : ∀ a, 1 ≤ a → a < 21 ∨ 41 ≤ a → a < 124 → s' a = s a) : kw_W s' B' g m fi l := by
  obtain ⟨⟨h1, h2, h3⟩, o, k, len, h4, h5, h6⟩ := h
  refine ⟨⟨h1.to fun a q1 q2 => hs a (by omega) (by omega) (by omega), by omega, h3⟩, o, k, len, h4.to hB fun a q1 q2 => hs a (by omega) (by omega) (by omega), ?_, h6⟩
  rw [hs 123 (by decide) (by decide) (by decide)]; exact h5
theorem kw_IX {s : kn_S} {B m fi o k len : Nat} {l : List kw_G} {g : Nat → Int32} (h1 : kr_R s 1 g m fi) (h4 : kw_H s B o k l) (h5 : s 123 2 = nI len) (h6 : len ≤ 120) : kn_I s m o k len := by
  obtain ⟨hX, hn⟩ := h1
  have hm := hX.2.2.1.2
  refine ⟨⟨hX.1.cyl.trans hX.2.2.1.1, by omega, hm.2⟩, ⟨h4.1.1.1, h4.1.1.2, h4.1.2.1.1, h4.1.2.1.2⟩, ⟨h5, h6⟩, h4.2.2, ?_, ?_⟩
  · rw [hX.1.fau]; exact hX.2.2.2.2.1.2
  · rw [hX.1.bro]; exact hX.2.2.2.2.1.1
/-- it has saved, and gone on to another row -/
theorem kw_fin {s s' : kn_S} {B B' m fi o k len m' fi' : Nat} {l : List kw_G} {g g' : Nat → Int32} (hR : kr_R s 1 g m fi) (hfi : fi ≤ B) (hJ : kw_J g m fi) (h4 : kw_H s B o k l) (h5 : s 123 2 = nI len) (h6 : len ≤ 120) (hs : ∀ a, a < 1 ∨ 21 ≤ a → s' a = kf_keepH s 41 1 o k a) (hR' : kr_R s' 1 g' m' fi') (hfi' : fi' ≤ B') (hB : B ≤ B') (hJ' : kw_J g' m' fi') : kw_W s' B' g' m' fi' (kw_push (g, m, fi) l) := by
  obtain ⟨o', k', hS⟩ := kw_save h4 hR hfi hJ
  refine ⟨⟨hR', hfi', hJ'⟩, o', k', len, hS.to hB fun a q1 q2 => hs a (by omega), ?_, h6⟩
  rw [hs 123 (by omega), kf_keepH_ne _ _ _ (by omega)]; exact h5
-- the model's firings, as functions of the row
section GD
variable (m cl : Nat) (x y w : Int32)
def gF (g : Nat → Int32) : Nat → Int32 := kg_fs (kx g) m cl x y w 129
def gA (g : Nat → Int32) : Int32 := kg_fa (kx g) m cl x y w
def gD (g : Nat → Int32) : Nat → Int32 × (Nat → Int32)
  | 0 => (0, g)
  | j + 1 => ((gD g j).1 + (if gA m cl x y w (gD g j).2 = 1 then 1 else 0), gF m cl x y w (gD g j).2)
theorem gD_s (g : Nat → Int32) (j : Nat) : gD m cl x y w g (j + 1) = ((gD m cl x y w g j).1 + (if gA m cl x y w (gD m cl x y w g j).2 = 1 then 1 else 0), gF m cl x y w (gD m cl x y w g j).2) := rfl
theorem gD_add (g : Nat → Int32) (a : Nat) : ∀ b, gD m cl x y w g (a + b) = ((gD m cl x y w g a).1 + (gD m cl x y w (gD m cl x y w g a).2 b).1, (gD m cl x y w (gD m cl x y w g a).2 b).2)
  | 0 => by
    show gD m cl x y w g a = ((gD m cl x y w g a).1 + 0, (gD m cl x y w g a).2)
    rw [Int32.add_zero]
  | b + 1 => by
    rw [show a + (b + 1) = (a + b) + 1 by omega, gD_s, gD_s, gD_add g a b, Int32.add_assoc]
theorem gD_le (g : Nat → Int32) : ∀ j, ∃ c : Nat, c ≤ j ∧ (gD m cl x y w g j).1 = nI c
  | 0 => ⟨0, Nat.le_refl _, rfl⟩
  | j + 1 => by
    obtain ⟨c, hc, e⟩ := gD_le g j
    rw [gD_s]
    by_cases q : gA m cl x y w (gD m cl x y w g j).2 = 1
    · refine ⟨c + 1, by omega, ?_⟩
      show (gD m cl x y w g j).1 + (if gA m cl x y w (gD m cl x y w g j).2 = 1 then 1 else 0) = nI (c + 1)
      rw [if_pos q, e, nI_1]
    · refine ⟨c, by omega, ?_⟩
      show (gD m cl x y w g j).1 + (if gA m cl x y w (gD m cl x y w g j).2 = 1 then 1 else 0) = nI c
      rw [if_neg q, e, Int32.add_zero]
end GD
section GM
variable {s : kn_S} {b m fi cl : Nat} {x y w : Int32} {g : Nat → Int32}
theorem kw_mod (h : kr_R s b g m fi) (ho : kr_op x y w cl) (hfi : fi + 1 < 2 ^ 31) : kr_R (kf_mod s b m x y w) b (gF m cl x y w g) m (fi + 1) ∧ kf_mo s b x y w = gA m cl x y w g := by
  obtain ⟨h1, h2, -⟩ := kr_mod (t := kx g) (by rw [kx_129]; exact h) ho hfi
  exact ⟨h1, h2⟩
theorem kw_modJ (h : kr_R s b g m fi) (hJ : kw_J g m fi) (ho : kr_op x y w cl) (hfi : fi + 1 < 2 ^ 31) : kw_J (gF m cl x y w g) m (fi + 1) := by
  have h1 := kr_s15 (t := kx g) (by rw [kx_129]; exact h)
  have e10 : kg_rn (kx g) 129 = upd g 10 (kf_rnd (kx g 129 10)) := by unfold kg_rn; rw [kn_up_row, kx_129]
  have hJ1 : kw_J (kg_rn (kx g) 129) m fi := by
    rw [e10]
    have ek : kw_ks (upd g 10 (kf_rnd (kx g 129 10))) m = kw_ks g m := kr_sum_c m fun d hd => by rw [show upd g 10 (kf_rnd (kx g 129 10)) (41 + d) = g (41 + d) from if_neg (by omega)]
    refine ⟨?_, hJ.2.of (if_neg (by decide)) (if_neg (by decide)) (if_neg (by decide))⟩
    rw [ek]
    exact hJ.1.free (by decide) (by decide) (by decide) (by omega) (by omega)
  exact kw_tr h1.1.2.2 hJ1 hfi ho.2.2.2
theorem kw_drv (h : kr_R s b g m fi) (hJ : kw_J g m fi) (ho : kr_op x y w cl) : ∀ j, fi + j < 2 ^ 31 → kr_R (kf_drv b m x y w s j).2 b (gD m cl x y w g j).2 m (fi + j) ∧ (kf_drv b m x y w s j).1 = (gD m cl x y w g j).1 ∧ kw_J (gD m cl x y w g j).2 m (fi + j)
  | 0, _ => ⟨h, rfl, hJ⟩
  | j + 1, hj => by
    obtain ⟨h1, h2, h3⟩ := kw_drv h hJ ho j (by omega)
    obtain ⟨q1, q2⟩ := kw_mod h1 ho (by omega)
    refine ⟨q1, ?_, kw_modJ h1 h3 ho (by omega)⟩
    show (if kf_mo (kf_drv b m x y w s j).2 b x y w = 1 then (kf_drv b m x y w s j).1 + 1 else (kf_drv b m x y w s j).1) = (gD m cl x y w g j).1 + (if gA m cl x y w (gD m cl x y w g j).2 = 1 then 1 else 0)
    rw [q2, h2]
    split
    · rfl
    · exact (Int32.add_zero _).symm
theorem gA_0 {g : Nat → Int32} (r : Nat) (h : ¬ gA m cl x y w g = 1) (h2 : (gD m cl x y w (gF m cl x y w g) r).1 = 0) : (gD m cl x y w g (r + 1)).1 = 0 := by
  have e := gD_add m cl x y w g 1 r
  rw [Nat.add_comm 1 r] at e
  rw [e]
  have e1 : gD m cl x y w g 1 = (0 + (if gA m cl x y w g = 1 then 1 else 0), gF m cl x y w g) := gD_s m cl x y w g 0
  rw [e1, if_neg h]
  show (0 : Int32) + 0 + (gD m cl x y w (gF m cl x y w g) r).1 = 0
  rw [h2]
  rfl
theorem kw_sq (ho : kr_op x y w cl) (r : Nat) : ∀ (fi : Nat) (s : kn_S) (g : Nat → Int32), kr_R s 21 g m fi → fi + r < 2 ^ 31 → ¬ (kf_sqL m x y w r s).1 = 0 → (gD m cl x y w g r).1 = 0 := by
  induction r with
  | zero =>
    intro fi s g h hr hq
    exact congrArg Prod.fst (show gD m cl x y w g 0 = (0, g) from by unfold gD; rfl)
  | succ r ih =>
    intro fi s g h hr hq
    obtain ⟨q1, q2⟩ := kw_mod h ho (by omega)
    unfold kf_sqL at hq
    rw [q2] at hq
    by_cases w9 : gA m cl x y w g = 1
    · rw [if_pos w9] at hq; exact absurd rfl hq
    · rw [if_neg w9] at hq
      exact gA_0 r w9 (ih (fi + 1) _ _ q1 (by omega) hq)
theorem kw_qa {W : Nat} (hW : W < 2 ^ 31) : ∀ (r j q : Nat) (s : kn_S), q < j → j + r < 2 ^ 31 → (kf_qa m x y w (nI W) r j s (nI q)).1 = -1 ∨ ∃ t : Nat, (kf_qa m x y w (nI W) r j s (nI q)).1 = nI t ∧ W ≤ t ∧ t < j + r
  | 0, j, q, s, hq, hj => Or.inl rfl
  | r + 1, j, q, s, hq, hj => by
    have hq' : ∃ q' : Nat, q' ≤ j ∧ (if kf_mo s 21 x y w = 1 then (0 : Int32) else nI q + 1) = nI q' := by
      split
      · exact ⟨0, by omega, rfl⟩
      · exact ⟨q + 1, by omega, nI_1 q⟩
    obtain ⟨q', hq1, hq2⟩ := hq'
    unfold kf_qa
    rw [hq2]
    by_cases hlt : q' < W
    · rw [if_pos (nI_lt hlt hW)]
      rcases kw_qa hW r (j + 1) q' (kf_mod s 21 m x y w) (by omega) (by omega) with h | ⟨t, h1, h2, h3⟩
      · exact Or.inl h
      · exact Or.inr ⟨t, h1, h2, by omega⟩
    · rw [if_neg (nI_nlt (by omega) (by omega))]
      exact Or.inr ⟨j, rfl, by omega, by omega⟩
theorem kr_oct80 {oc : Nat} (h1 : 80 ≤ oc) (h2 : oc ≤ 110) : ¬ kf_within (nI oc) 80 110 = 0 := by
  unfold kf_within
  rw [if_neg (show ¬ nI oc < 80 from nI_nlt (b := 80) h1 (by omega)), if_neg (show ¬ (110 : Int32) < nI oc from nI_nlt (a := 110) h2 (by decide))]
  decide
theorem kw_low {cnt : Nat} (hop : ¬ kf_isOp x y = 0) (hce : kf_cell x y = nI cl) (hcl : cl < 24) (hfi : fi + cnt < 2 ^ 31) : ∀ (r oc : Nat) (s : kn_S), oc + r = 111 → 80 ≤ oc → kr_R s 1 g m fi → (kf_low m cnt x y r oc s).1 = -1 ∨ ∃ c : Nat, (kf_low m cnt x y r oc s).1 = nI c ∧ 80 ≤ c ∧ c ≤ 110 ∧ (gD m cl x y (nI c) g cnt).1 = 0
  | 0, oc, s, hr, ho, hR => Or.inl rfl
  | r + 1, oc, s, hr, ho, hR => by
    unfold kf_low
    by_cases q : (kf_sqL m x y (nI oc) cnt (kf_cpySt s 21 1)).1 = 0
    · rw [if_pos q]
      exact kw_low hop hce hcl hfi r (oc + 1) _ (by omega) (by omega) (hR.to fun a q1 q2 => by rw [kf_sqL_ne m x y _ (by omega), kf_cpySt_ne _ (by omega)])
    · rw [if_neg q]
      exact Or.inr ⟨oc, rfl, ho, by omega, kw_sq ⟨hop, kr_oct80 ho (by omega), hce, hcl⟩ cnt fi _ g (kr_cpy (by omega) hR) hfi q⟩
end GM
