-- what was saved
/-- the saved controls: the class's ring of States, the reference's rows -/
def kr_H (s t : kn_S) (B o k : Nat) : Prop := ((s 41 1 = nI o ∧ o < 4) ∧ (s 41 2 = nI k ∧ k ≤ 4) ∧ t 128 3 = nI k) ∧ (∀ j, j < k → ∃ m fi, kr_R s (43 + 20 * ((o + j) % 4)) (fun q => t 130 (254 * j + q)) m fi ∧ fi ≤ B) ∧ ∀ r, r < 4 → kn_01 (s (43 + 20 * r) 12) ∧ kn_01 (s (43 + 20 * r) 16)
theorem kr_H.to {s s' t t' : kn_S} {B B' o k : Nat} (h : kr_H s t B o k) (hB : B ≤ B') (hs : ∀ a, 41 ≤ a → a < 123 → s' a = s a) (h3 : t' 128 3 = t 128 3) (h130 : t' 130 = t 130) : kr_H s' t' B' o k := by
  obtain ⟨⟨h1, h2, h4⟩, h5, h6⟩ := h
  refine ⟨⟨?_, ?_, h3.trans h4⟩, fun j hj => ?_, fun r hr => ?_⟩
  · rw [hs 41 (by omega) (by omega)]; exact h1
  · rw [hs 41 (by omega) (by omega)]; exact h2
  · obtain ⟨m, fi, q1, q2⟩ := h5 j hj
    have hp : (o + j) % 4 < 4 := Nat.mod_lt _ (by omega)
    refine ⟨m, fi, ?_, by omega⟩
    rw [h130]
    exact q1.to fun a w1 w2 => hs a (by omega) (by omega)
  · rw [hs (43 + 20 * r) (by omega) (by omega)]; exact h6 r hr
theorem kg_cpy_in (s : kn_S) {b d b2 d2 j : Nat} (h : b2 ≠ b) : ∀ n, kg_cpy s b d b2 d2 n b j = if d ≤ j ∧ j < d + n then s b2 (d2 + (j - d)) else s b j
  | 0 => by rw [if_neg (by omega)]; rfl
  | n + 1 => by
    show kn_up (kg_cpy s b d b2 d2 n) b (d + n) (kg_cpy s b d b2 d2 n b2 (d2 + n)) b j = _
    by_cases q : j = d + n
    · subst q
      rw [kn_up_row, if_pos (by omega), kg_cpy_ne s h]
      show (if d + n = d + n then _ else _) = _
      rw [if_pos rfl, Nat.add_sub_cancel_left]
    · rw [kn_upk q, kg_cpy_in s h n]
      by_cases q2 : d ≤ j ∧ j < d + n
      · rw [if_pos q2, if_pos (by omega)]
      · rw [if_neg q2, if_neg (by omega)]
theorem kg_cpy_sh (s : kn_S) {b j : Nat} (w : Nat) : ∀ n, kg_cpy s b 0 b w n b j = if j < n then s b (w + j) else s b j
  | 0 => by rw [if_neg (by omega)]; rfl
  | n + 1 => by
    show kn_up (kg_cpy s b 0 b w n) b (0 + n) (kg_cpy s b 0 b w n b (w + n)) b j = _
    by_cases q : j = n
    · subst q
      rw [kn_up_row, if_pos (by omega), kg_cpy_sh (j := w + j) s w j]
      show (if j = 0 + j then _ else _) = _
      rw [if_pos (by omega)]
      by_cases q2 : w + j < j
      · omega
      · rw [if_neg q2]
    · rw [kn_upk (by omega), kg_cpy_sh s w n]
      by_cases q2 : j < n
      · rw [if_pos q2, if_pos (by omega)]
      · rw [if_neg q2, if_neg (by omega)]
section KRS
variable {s t : kn_S} {B o k m fi : Nat}
theorem kr_keepE (h1 : s 41 1 = nI o) (ho : o < 4) (h2 : s 41 2 = nI k) (hk : k ≤ 4) : kf_keepH s 41 1 o k = if k = 4 then kn_up (kf_cpySt s (43 + 20 * ((o + k) % 4)) 1) 41 1 (nI ((o + 1) % 4)) else kn_up (kf_cpySt s (43 + 20 * ((o + k) % 4)) 1) 41 2 (nI (k + 1)) := by
  have hp : (o + k) % 4 < 4 := Nat.mod_lt _ (by omega)
  have e : ∀ j, kf_cpySt s (43 + 20 * ((o + k) % 4)) 1 41 j = s 41 j := fun j => congrFun (kf_cpySt_ne s (by omega)) j
  show (if (4 : Int32) ≤ kf_cpySt s (43 + 20 * ((o + k) % 4)) 1 41 2 then kn_up (kf_cpySt s (43 + 20 * ((o + k) % 4)) 1) 41 1 (kf_cpySt s (43 + 20 * ((o + k) % 4)) 1 41 1 + 1 - (kf_cpySt s (43 + 20 * ((o + k) % 4)) 1 41 1 + 1) / 4 * 4) else kn_up (kf_cpySt s (43 + 20 * ((o + k) % 4)) 1) 41 2 (kf_cpySt s (43 + 20 * ((o + k) % 4)) 1 41 2 + 1)) = _
  rw [e, e, h1, h2, nI_1, nI_1]
  by_cases q : k = 4
  · subst q
    rw [if_pos (show (4 : Int32) ≤ nI 4 from nI_le (Nat.le_refl 4) (by decide)), if_pos rfl, show nI (o + 1) - nI (o + 1) / 4 * 4 = nI ((o + 1) % 4) from kn_rem rfl (by omega) (by omega) (by omega) rfl]
  · rw [if_neg (show ¬ (4 : Int32) ≤ nI k from nI_ge (a := k) (b := 4) (by omega) (by decide)), if_neg q]
theorem kr_save (h : kr_H s t B o k) (hR : kr_R s 1 (t 129) m fi) (hfi : fi ≤ B) : kr_H (kf_keepH s 41 1 o k) (kg_saves t k) B (if k = 4 then (o + 1) % 4 else o) (if k = 4 then 4 else k + 1) := by
  obtain ⟨⟨⟨h1, ho⟩, ⟨h2, hk⟩, h4⟩, h5, h6⟩ := h
  have hp : (o + k) % 4 < 4 := Nat.mod_lt _ (by omega)
  have hcp : kr_R (kf_cpySt s (43 + 20 * ((o + k) % 4)) 1) (43 + 20 * ((o + k) % 4)) (t 129) m fi := kr_cpy (by omega) hR
  have hcn : ∀ a, a < 43 + 20 * ((o + k) % 4) ∨ 43 + 20 * ((o + k) % 4) + 20 ≤ a → kf_cpySt s (43 + 20 * ((o + k) % 4)) 1 a = s a := fun a ha => kf_cpySt_ne s ha
  have c12 : ∀ r, r < 4 → kn_01 (kf_cpySt s (43 + 20 * ((o + k) % 4)) 1 (43 + 20 * r) 12) ∧ kn_01 (kf_cpySt s (43 + 20 * ((o + k) % 4)) 1 (43 + 20 * r) 16) := by
    intro r hr
    by_cases q : r = (o + k) % 4
    · rw [q, hcp.1.1.fau, hcp.1.1.bro]
      exact ⟨hcp.1.2.2.2.2.1.2, hcp.1.2.2.2.2.1.1⟩
    · rw [hcn _ (by omega)]
      exact h6 r hr
  rw [kr_keepE h1 ho h2 hk]
  by_cases q : k = 4
  · subst q
    rw [if_pos rfl, if_pos rfl, if_pos rfl]
    have hg : kg_saves t 4 = kn_up (kg_cpy (kn_up (kg_cpy t 130 0 130 254 762) 128 3 (nI 3)) 130 762 129 0 254) 128 3 (nI 4) := if_pos rfl
    have g130 : ∀ j, kg_saves t 4 130 j = if 762 ≤ j ∧ j < 762 + 254 then t 129 (j - 762) else if j < 762 then t 130 (254 + j) else t 130 j := by
      intro j
      rw [hg, kn_up_ne _ _ _ (by decide), kg_cpy_in _ (by decide)]
      by_cases w : 762 ≤ j ∧ j < 762 + 254
      · rw [if_pos w, if_pos w, kn_up_ne _ _ _ (by decide), kg_cpy_ne _ (by decide), Nat.zero_add]
      · rw [if_neg w, if_neg w, kn_up_ne _ _ _ (by decide), kg_cpy_sh]
    refine ⟨⟨⟨?_, Nat.mod_lt _ (by omega)⟩, ⟨?_, by omega⟩, ?_⟩, fun j hj => ?_, fun r hr => ?_⟩
    · rw [kn_up_row]; rfl
    · rw [kn_upk (by decide), hcn 41 (by omega), h2]
    · rw [hg, kn_up_row]; rfl
    · have hup : ∀ a, 43 ≤ a → kn_up (kf_cpySt s (43 + 20 * ((o + 4) % 4)) 1) 41 1 (nI ((o + 1) % 4)) a = kf_cpySt s (43 + 20 * ((o + 4) % 4)) 1 a := fun a ha => kn_up_ne _ _ _ (by omega)
      by_cases w : j = 3
      · subst w
        have ep : ((o + 1) % 4 + 3) % 4 = (o + 4) % 4 := by omega
        refine ⟨m, fi, ?_, hfi⟩
        rw [ep]
        refine (hcp.to fun a w1 w2 => hup a (by omega)).of fun q hq => ?_
        rw [g130, if_pos (by omega)]
        exact congrArg (t 129) (by omega)
      · obtain ⟨m1, f1, r1, r2⟩ := h5 (j + 1) (by omega)
        have ep : ((o + 1) % 4 + j) % 4 = (o + (j + 1)) % 4 := by omega
        have np : (o + (j + 1)) % 4 ≠ (o + 4) % 4 := by omega
        have lp : (o + (j + 1)) % 4 < 4 := Nat.mod_lt _ (by omega)
        refine ⟨m1, f1, ?_, r2⟩
        rw [ep]
        refine (r1.to fun a w1 w2 => ?_).of fun q hq => ?_
        · rw [hup a (by omega), hcn a (by omega)]
        · rw [g130, if_neg (by omega), if_pos (by omega)]
          exact congrArg (t 130) (by omega)
    · rw [kn_up_ne _ _ _ (by omega)]
      exact c12 r hr
  · rw [if_neg q, if_neg q, if_neg q]
    have hg : kg_saves t k = kn_up (kg_cpy t 130 (254 * k) 129 0 254) 128 3 (nI (k + 1)) := if_neg q
    have g130 : ∀ j, kg_saves t k 130 j = if 254 * k ≤ j ∧ j < 254 * k + 254 then t 129 (j - 254 * k) else t 130 j := by
      intro j
      rw [hg, kn_up_ne _ _ _ (by decide), kg_cpy_in _ (by decide), Nat.zero_add]
    refine ⟨⟨⟨?_, ho⟩, ⟨?_, by omega⟩, ?_⟩, fun j hj => ?_, fun r hr => ?_⟩
    · rw [kn_upk (by decide), hcn 41 (by omega), h1]
    · rw [kn_up_row]; rfl
    · rw [hg, kn_up_row]; rfl
    · have hup : ∀ a, 43 ≤ a → kn_up (kf_cpySt s (43 + 20 * ((o + k) % 4)) 1) 41 2 (nI (k + 1)) a = kf_cpySt s (43 + 20 * ((o + k) % 4)) 1 a := fun a ha => kn_up_ne _ _ _ (by omega)
      by_cases w : j = k
      · subst w
        refine ⟨m, fi, ?_, hfi⟩
        refine (hcp.to fun a w1 w2 => hup a (by omega)).of fun q hq => ?_
        rw [g130, if_pos (by omega)]
        exact congrArg (t 129) (by omega)
      · obtain ⟨m1, f1, r1, r2⟩ := h5 j (by omega)
        have np : (o + j) % 4 ≠ (o + k) % 4 := by omega
        have lp : (o + j) % 4 < 4 := Nat.mod_lt _ (by omega)
        refine ⟨m1, f1, ?_, r2⟩
        refine (r1.to fun a w1 w2 => ?_).of fun q hq => ?_
        · rw [hup a (by omega), hcn a (by omega)]
        · rw [g130, if_neg]
          have : j < k := by omega
          have : 254 * j + 254 ≤ 254 * k := by omega
          omega
    · rw [kn_up_ne _ _ _ (by omega)]
      exact c12 r hr
/-- taken back: the latest that was saved -/
theorem kr_undo {w : Nat} (h : kr_H s t B o (w + 1)) : (∃ m fi, kr_R (kf_restH s 41 1 o (w + 1)) 1 (kg_undo t w 129) m fi ∧ fi ≤ B) ∧ kr_H (kf_restH s 41 1 o (w + 1)) (kg_undo t w) B o w := by
  obtain ⟨⟨⟨h1, ho⟩, ⟨h2, hk⟩, h4⟩, h5, h6⟩ := h
  have hr : kf_restH s 41 1 o (w + 1) = kf_cpySt (kn_up s 41 2 (nI w)) 1 (43 + 20 * ((o + w) % 4)) := by
    unfold kf_restH
    rw [if_neg (by rw [h2]; exact nI_nle (by omega) (by omega)), h2, nI_pred]
    rfl
  have hp : (o + w) % 4 < 4 := Nat.mod_lt _ (by omega)
  have hcn : ∀ a, 21 ≤ a → kf_cpySt (kn_up s 41 2 (nI w)) 1 (43 + 20 * ((o + w) % 4)) a = kn_up s 41 2 (nI w) a := fun a ha => kf_cpySt_ne _ (by omega)
  have g130 : kg_undo t w 130 = t 130 := by
    unfold kg_undo
    rw [kg_cpy_ne _ (by decide), kn_up_ne _ _ _ (by decide)]
  rw [hr]
  refine ⟨?_, ⟨⟨?_, ho⟩, ⟨?_, by omega⟩, ?_⟩, fun j hj => ?_, fun r hr => ?_⟩
  · obtain ⟨m1, f1, r1, r2⟩ := h5 w (by omega)
    refine ⟨m1, f1, ?_, r2⟩
    have r3 : kr_R (kn_up s 41 2 (nI w)) (43 + 20 * ((o + w) % 4)) (fun q => t 130 (254 * w + q)) m1 f1 := r1.to fun a w1 w2 => kn_up_ne _ _ _ (by omega)
    refine (kr_cpy (b := 1) (by omega) r3).of fun q hq => ?_
    unfold kg_undo
    rw [kg_cpy_in _ (by decide), if_pos (by omega), kn_up_ne _ _ _ (by decide)]
    rfl
  · rw [hcn 41 (by omega), kn_upk (by decide), h1]
  · rw [hcn 41 (by omega), kn_up_row]; rfl
  · unfold kg_undo
    rw [kg_cpy_ne _ (by decide), kn_up_row]; rfl
  · obtain ⟨m1, f1, r1, r2⟩ := h5 j (by omega)
    have lp : (o + j) % 4 < 4 := Nat.mod_lt _ (by omega)
    refine ⟨m1, f1, ?_, r2⟩
    rw [g130]
    exact r1.to fun a w1 w2 => by rw [hcn a (by omega), kn_up_ne _ _ _ (by omega)]
  · rw [hcn _ (by omega), kn_up_ne _ _ _ (by omega)]
    exact h6 r hr
end KRS

