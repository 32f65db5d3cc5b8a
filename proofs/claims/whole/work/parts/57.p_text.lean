-- the text read, on both sides
theorem kg_rdL_row {s t : kn_S} (h : s 132 = t 132) (len : Nat) : ∀ r sp nu, kg_rdL s len r sp nu = kg_rdL t len r sp nu
  | 0, _, _ => rfl
  | r + 1, sp, nu => by
    have e : kg_dig s sp len = kg_dig t sp len := by unfold kg_dig; rw [h]
    unfold kg_rdL
    rw [e, h]
    split
    · rfl
    · exact kg_rdL_row h len r _ _
theorem kg_rds_row {s t : kn_S} (h : s 132 = t 132) (len sp : Nat) (be : Int32) : kg_rds s len sp be = kg_rds t len sp be := by
  unfold kg_rds kg_rdR kg_rb
  rw [kg_rdL_row h, h]
theorem kg_p_132 (s : kn_S) (sp : Nat) (nu : Int32) : kg_p s sp nu 132 = s 132 := by
  unfold kg_p
  rw [kn_up_ne _ _ _ (by decide), kn_up_ne _ _ _ (by decide)]
/-- the three numbers of a firing -/
def kt_a (t : kn_S) (len sp : Nat) : Nat × Nat × Int32 := kg_rds t len sp 32
def kt_b (t : kn_S) (len sp : Nat) : Nat × Nat × Int32 := kg_rds t len (kt_a t len sp).2.1 32
def kt_c (t : kn_S) (len sp : Nat) : Nat × Nat × Int32 := kg_rds t len (kt_b t len sp).2.1 59
/-- whether a firing is there, and where the reading stands behind it -/
def kt_ok (t : kn_S) (len sp : Nat) : Nat := if (kt_a t len sp).1 = 0 then 0 else if (kt_b t len sp).1 = 0 then 0 else (kt_c t len sp).1
def kt_to (t : kn_S) (len sp : Nat) : Nat := if (kt_a t len sp).1 = 0 then (kt_a t len sp).2.1 else if (kt_b t len sp).1 = 0 then (kt_b t len sp).2.1 else (kt_c t len sp).2.1
theorem kt_rf {s t : kn_S} (h : s 132 = t 132) (len sp : Nat) : (kg_rf s len sp).1 = kt_ok t len sp ∧ (kg_rf s len sp).2.1 = kt_to t len sp ∧ (¬ kt_ok t len sp = 0 → (kg_rf s len sp).2.2 128 9 = (kt_a t len sp).2.2 ∧ (kg_rf s len sp).2.2 128 10 = (kt_b t len sp).2.2 ∧ (kg_rf s len sp).2.2 128 11 = (kt_c t len sp).2.2) := by
  have ea : kg_rds s len sp 32 = kt_a t len sp := kg_rds_row h len sp 32
  unfold kg_rf kt_ok kt_to
  rw [ea]
  by_cases q1 : (kt_a t len sp).1 = 0
  · rw [if_pos q1, if_pos q1, if_pos q1]
    exact ⟨rfl, rfl, fun w => absurd rfl w⟩
  rw [if_neg q1, if_neg q1, if_neg q1]
  have h1 : kn_up (kg_p s (kt_a t len sp).2.1 (kt_a t len sp).2.2) 128 9 (kt_a t len sp).2.2 132 = t 132 := by rw [kn_up_ne _ _ _ (by decide), kg_p_132, h]
  have v9 : kn_up (kg_p s (kt_a t len sp).2.1 (kt_a t len sp).2.2) 128 9 (kt_a t len sp).2.2 128 9 = (kt_a t len sp).2.2 := by rw [kn_up_row]; exact if_pos rfl
  dsimp only
  generalize kn_up (kg_p s (kt_a t len sp).2.1 (kt_a t len sp).2.2) 128 9 (kt_a t len sp).2.2 = s1 at h1 v9 ⊢
  have eb : kg_rds s1 len (kt_a t len sp).2.1 32 = kt_b t len sp := kg_rds_row h1 len _ 32
  rw [eb]
  by_cases q2 : (kt_b t len sp).1 = 0
  · rw [if_pos q2, if_pos q2, if_pos q2]
    exact ⟨rfl, rfl, fun w => absurd rfl w⟩
  rw [if_neg q2, if_neg q2, if_neg q2]
  have h2 : kn_up (kg_p s1 (kt_b t len sp).2.1 (kt_b t len sp).2.2) 128 10 (kt_b t len sp).2.2 132 = t 132 := by rw [kn_up_ne _ _ _ (by decide), kg_p_132, h1]
  have w9 : kn_up (kg_p s1 (kt_b t len sp).2.1 (kt_b t len sp).2.2) 128 10 (kt_b t len sp).2.2 128 9 = (kt_a t len sp).2.2 := by rw [kn_upk (by decide), kg_p, kn_upk (by decide), kn_upk (by decide), v9]
  have w10 : kn_up (kg_p s1 (kt_b t len sp).2.1 (kt_b t len sp).2.2) 128 10 (kt_b t len sp).2.2 128 10 = (kt_b t len sp).2.2 := by rw [kn_up_row]; exact if_pos rfl
  generalize kn_up (kg_p s1 (kt_b t len sp).2.1 (kt_b t len sp).2.2) 128 10 (kt_b t len sp).2.2 = s2 at h2 w9 w10 ⊢
  have ec : kg_rds s2 len (kt_b t len sp).2.1 59 = kt_c t len sp := kg_rds_row h2 len _ 59
  rw [ec]
  refine ⟨rfl, rfl, fun _ => ⟨?_, ?_, ?_⟩⟩
  · dsimp only
    rw [kn_upk (by decide), kg_p, kn_upk (by decide), kn_upk (by decide), w9]
  · dsimp only
    rw [kn_upk (by decide), kg_p, kn_upk (by decide), kn_upk (by decide), w10]
  · dsimp only
    rw [kn_up_row]
    exact if_pos rfl
section KRX
variable {s t : kn_S} {len : Nat}
/-- the class at a byte that is no further digit -/
def kt_fin (s t : kn_S) (len sp dg : Nat) (nu : Int32) : Int32 × kn_S :=
  if sp = len then (kf_rend s 123 (nI dg), s) else match kf_rsep s 123 (t 132 sp) (nI dg) nu with
    | none => (nI sp, s)
    | some (s1, dg1, nu1) => kf_rd 123 (len - sp - 1) (sp + 1) s1 dg1 nu1
theorem kt_at (hb : ∀ i, i < len → s 125 i = t 132 i) (hl : len ≤ 120) {i : Nat} (hi : i < len) : kf_at (s (123 + 2)) 120 (nI i) = t 132 i := by
  rw [kf_at_nI (by decide) (by omega)]
  exact hb i hi
theorem kt_dig (hb : ∀ i, i < len → s 125 i = t 132 i) (hl : len ≤ 120) : ∀ (r i dg : Nat) (nu : Int32), i ≤ len → dg + r = 5 →
    kf_rd 123 (len - i) i s (nI dg) nu = kt_fin s t len (kg_rdL t len r i nu).1 (dg + ((kg_rdL t len r i nu).1 - i)) (kg_rdL t len r i nu).2
  | 0, i, dg, nu, hi, hd => by
    show kf_rd 123 (len - i) i s (nI dg) nu = kt_fin s t len i (dg + (i - i)) nu
    rw [Nat.sub_self, Nat.add_zero]
    unfold kt_fin
    by_cases q : i = len
    · rw [if_pos q, q, Nat.sub_self]; rfl
    · rw [if_neg q]
      obtain ⟨k, hk⟩ : ∃ k, len - i = k + 1 := ⟨len - i - 1, by omega⟩
      rw [hk, show k + 1 - 1 = k by omega]
      conv => lhs; unfold kf_rd
      rw [kt_at hb hl (by omega)]
      have e : kf_rstep s 123 (t 132 i) (nI dg) nu = kf_rsep s 123 (t 132 i) (nI dg) nu := by
        unfold kf_rstep
        rw [if_pos (show (5 : Int32) ≤ nI dg by rw [show dg = 5 by omega]; exact nI_le (Nat.le_refl 5) (by decide))]
        split
        · rfl
        split
        · rfl
        · rfl
      rw [e]
      rcases kf_rsep s 123 (t 132 i) (nI dg) nu with _ | ⟨s1, d1, n1⟩ <;> rfl
  | r + 1, i, dg, nu, hi, hd => by
    unfold kg_rdL
    by_cases q0 : kg_dig t i len = 0
    · rw [if_pos q0]
      show kf_rd 123 (len - i) i s (nI dg) nu = kt_fin s t len i (dg + (i - i)) nu
      rw [Nat.sub_self, Nat.add_zero]
      unfold kt_fin
      by_cases q : i = len
      · rw [if_pos q, q, Nat.sub_self]; rfl
      · rw [if_neg q]
        obtain ⟨k, hk⟩ : ∃ k, len - i = k + 1 := ⟨len - i - 1, by omega⟩
        rw [hk, show k + 1 - 1 = k by omega]
        conv => lhs; unfold kf_rd
        rw [kt_at hb hl (by omega)]
        unfold kg_dig at q0
        rw [if_neg (by omega)] at q0
        have e : kf_rstep s 123 (t 132 i) (nI dg) nu = kf_rsep s 123 (t 132 i) (nI dg) nu := by
          unfold kf_rstep
          unfold kf_within at q0
          split
          · rfl
          rename_i w1
          rw [if_neg w1] at q0
          split
          · rfl
          rename_i w2
          rw [if_neg w2] at q0
          exact absurd q0 (by decide)
        rw [e]
        rcases kf_rsep s 123 (t 132 i) (nI dg) nu with _ | ⟨s1, d1, n1⟩ <;> rfl
    · rw [if_neg q0]
      have hlt := kg_dig_lt q0
      have hd2 : dg < 5 := by omega
      have h9 := kt_dig hb hl r (i + 1) (dg + 1) (10 * nu + t 132 i - 48) (by omega) (by omega)
      have hle := (kg_rdL_le t len r (i + 1) (10 * nu + t 132 i - 48) (by omega)).1
      obtain ⟨k, hk⟩ : ∃ k, len - i = k + 1 := ⟨len - i - 1, by omega⟩
      have hk2 : len - (i + 1) = k := by omega
      rw [hk2] at h9
      rw [hk]
      conv => lhs; unfold kf_rd
      rw [kt_at hb hl (by omega)]
      unfold kg_dig at q0
      rw [if_neg (by omega)] at q0
      unfold kf_within at q0
      have e : kf_rstep s 123 (t 132 i) (nI dg) nu = some (s, nI (dg + 1), 10 * nu + t 132 i - 48) := by
        unfold kf_rstep
        by_cases w1 : t 132 i < 48
        · rw [if_pos w1] at q0; exact absurd rfl q0
        rw [if_neg w1] at q0 ⊢
        by_cases w2 : 57 < t 132 i
        · rw [if_pos w2] at q0; exact absurd rfl q0
        rw [if_neg w2, if_neg (show ¬ (5 : Int32) ≤ nI dg from nI_ge (a := dg) (b := 5) hd2 (by decide)), nI_1]
      rw [e]
      show kf_rd 123 k (i + 1) s (nI (dg + 1)) (10 * nu + t 132 i - 48) = _
      rw [h9]
      exact congrArg (fun d => kt_fin s t len (kg_rdL t len r (i + 1) (10 * nu + t 132 i - 48)).1 d (kg_rdL t len r (i + 1) (10 * nu + t 132 i - 48)).2) (by omega)
/-- the class with one number more -/
def kt_more (s : kn_S) (n : Nat) (nu : Int32) : kn_S := kn_up (kn_up s 127 n nu) 123 3 (nI (n + 1))
/-- what stands behind the number n -/
def kt_be (n : Nat) : Int32 := if n % 3 = 2 then 59 else 32
theorem kt_num {n i : Nat} (hb : ∀ i, i < len → s 125 i = t 132 i) (hl : len ≤ 120) (hi : i ≤ len) (hn : s 123 3 = nI n) (hlen : s 123 2 = nI len) (h2 : 2 * n ≤ i) :
    (i = len → kf_rd 123 (len - i) i s 0 0 = (if n % 3 = 0 then -1 else nI len, s)) ∧
    (i < len → (kg_rds t len i (kt_be n)).1 = 0 → kf_rd 123 (len - i) i s 0 0 = (nI (kg_rds t len i (kt_be n)).2.1, s)) ∧
    (i < len → ¬ (kg_rds t len i (kt_be n)).1 = 0 → kf_rd 123 (len - i) i s 0 0 = kf_rd 123 (len - (kg_rds t len i (kt_be n)).2.1) (kg_rds t len i (kt_be n)).2.1 (kt_more s n (kg_rds t len i (kt_be n)).2.2) 0 0 ∧ i + 2 ≤ (kg_rds t len i (kt_be n)).2.1 ∧ (kg_rds t len i (kt_be n)).2.1 ≤ len) := by
  have hm : nI n - nI n / 3 * 3 = nI (n % 3) := kn_rem rfl (by omega) (by omega) (by omega) rfl
  have hsep : kf_sep s 123 = kt_be n := by
    unfold kf_sep kt_be
    rw [hn, hm]
    by_cases q : n % 3 = 2
    · rw [q, if_pos rfl]; rfl
    · rw [if_neg q, if_neg]
      intro w
      exact q ((nI_eq (a := n % 3) (b := 2) (by omega) (by decide)).mp w)
  have hend : ∀ dg : Nat, dg < 100 → kf_rend s 123 (nI dg) = if dg = 0 then (if n % 3 = 0 then -1 else nI len) else nI len := by
    intro dg hdg
    unfold kf_rend
    rw [hn, hm, hlen]
    by_cases q : dg = 0
    · subst q
      rw [if_pos (show nI 0 = 0 from rfl), if_pos rfl]
      by_cases q2 : n % 3 = 0
      · rw [q2]; rfl
      · rw [if_neg q2, if_neg (nI_ne0 (by omega) (by omega))]
    · rw [if_neg q, if_neg (nI_ne0 (by omega) (by omega))]
  have key : kf_rd 123 (len - i) i s 0 0 = kt_fin s t len (kg_rdL t len 5 i 0).1 (0 + ((kg_rdL t len 5 i 0).1 - i)) (kg_rdL t len 5 i 0).2 := kt_dig hb hl 5 i 0 0 hi rfl
  have hle := kg_rdL_le t len 5 i 0 hi
  have hmax : (kg_rdL t len 5 i 0).1 ≤ i + 5 := by
    have : ∀ r sp nu, (kg_rdL t len r sp nu).1 ≤ sp + r := by
      intro r
      induction r with
      | zero => intro sp nu; exact Nat.le_refl _
      | succ r ih =>
        intro sp nu
        unfold kg_rdL
        split
        · show sp ≤ _; omega
        · have := ih (sp + 1) (10 * nu + t 132 sp - 48); omega
    exact this 5 i 0
  rw [key]
  unfold kg_rds kg_rdR kg_rb
  generalize hp : kg_rdL t len 5 i 0 = p at hle hmax key ⊢
  obtain ⟨sp, nu⟩ := p
  dsimp only at hle hmax key ⊢
  rw [Nat.zero_add]
  refine ⟨fun q => ?_, fun q h0 => ?_, fun q h0 => ?_⟩
  · obtain rfl : sp = len := by omega
    unfold kt_fin
    rw [if_pos rfl, hend _ (by omega), if_pos (by omega)]
  · rw [h0, Nat.add_zero]
    unfold kt_fin
    by_cases q2 : sp = len
    · rw [if_pos q2, hend _ (by omega), if_neg (by omega), q2]
    · rw [if_neg q2]
      have hs : kf_rsep s 123 (t 132 sp) (nI (sp - i)) nu = none := by
        unfold kf_rsep
        by_cases w : sp ≤ i
        · rw [if_pos]
          rw [show sp - i = 0 by omega]
          exact nI_le (Nat.le_refl 0) (by decide)
        · rw [if_neg (nI_nle (by omega) (by omega)), hsep, if_neg]
          intro w2
          rw [if_neg w, if_neg (by omega), if_pos w2] at h0
          omega
      rw [hs]
  · have w1 : ¬ sp ≤ i := fun w => h0 (by rw [if_pos w])
    have w2 : ¬ len ≤ sp := fun w => h0 (by rw [if_neg w1, if_pos w])
    have w3 : t 132 sp = kt_be n := by
      by_cases w : t 132 sp = kt_be n
      · exact w
      · exact absurd (by rw [if_neg w1, if_neg w2, if_neg w]) h0
    rw [if_neg w1, if_neg w2, if_pos w3]
    refine ⟨?_, by omega, by omega⟩
    unfold kt_fin
    rw [if_neg (by omega)]
    have hs : kf_rsep s 123 (t 132 sp) (nI (sp - i)) nu = some (kt_more s n nu, 0, 0) := by
      unfold kf_rsep
      rw [if_neg (nI_nle (by omega) (by omega)), hsep, if_pos w3, hn, kf_put_nI _ _ (by decide) (by omega)]
      unfold kt_more
      dsimp only
      rw [show kn_up s (123 + 4) n nu 123 3 + 1 = nI (n + 1) by rw [kn_up_ne _ _ _ (by decide), hn, nI_1]]
    rw [hs]
    show kf_rd 123 (len - sp - 1) (sp + 1) (kt_more s n nu) 0 0 = _
    rw [show len - sp - 1 = len - (sp + 1) by omega]
end KRX
