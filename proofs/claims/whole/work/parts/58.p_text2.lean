-- the firings of the text, on both sides
section KRX
variable {s t : kn_S} {len : Nat}
theorem kt_end (t : kn_S) (len : Nat) (be : Int32) : (kg_rds t len len be).1 = 0 ∧ (kg_rds t len len be).2.1 = len := by
  have h := kg_rdL_le t len 5 len 0 (Nat.le_refl _)
  unfold kg_rds kg_rdR kg_rb
  dsimp only
  rw [if_pos (by omega)]
  exact ⟨rfl, by omega⟩
theorem kt_num1 {n i : Nat} (hb : ∀ i, i < len → s 125 i = t 132 i) (hl : len ≤ 120) (hi : i ≤ len) (hx : i < len ∨ ¬ n % 3 = 0) (hn : s 123 3 = nI n) (hlen : s 123 2 = nI len) (h2 : 2 * n ≤ i) :
    ((kg_rds t len i (kt_be n)).1 = 0 → kf_rd 123 (len - i) i s 0 0 = (nI (kg_rds t len i (kt_be n)).2.1, s)) ∧
    (¬ (kg_rds t len i (kt_be n)).1 = 0 → kf_rd 123 (len - i) i s 0 0 = kf_rd 123 (len - (kg_rds t len i (kt_be n)).2.1) (kg_rds t len i (kt_be n)).2.1 (kt_more s n (kg_rds t len i (kt_be n)).2.2) 0 0 ∧ i + 2 ≤ (kg_rds t len i (kt_be n)).2.1 ∧ (kg_rds t len i (kt_be n)).2.1 ≤ len) := by
  obtain ⟨h3, h4, h5⟩ := kt_num (t := t) hb hl hi hn hlen h2
  by_cases q : i < len
  · exact ⟨h4 q, h5 q⟩
  · obtain rfl : i = len := by omega
    have e := kt_end t i (kt_be n)
    refine ⟨fun _ => ?_, fun w => absurd e.1 w⟩
    rw [h3 rfl, if_neg (by rcases hx with w | w <;> first | exact w | omega), e.2]
theorem kt_more_125 (s : kn_S) (n : Nat) (nu : Int32) : kt_more s n nu 125 = s 125 ∧ kt_more s n nu 123 2 = s 123 2 ∧ kt_more s n nu 123 3 = nI (n + 1) := by
  unfold kt_more
  refine ⟨?_, ?_, ?_⟩
  · rw [kn_up_ne _ _ _ (by decide), kn_up_ne _ _ _ (by decide)]
  · rw [kn_upk (by decide), kn_up_ne _ _ _ (by decide)]
  · rw [kn_up_row]; exact if_pos rfl
theorem kt_more_127 (s : kn_S) (n : Nat) (nu : Int32) (j : Nat) : kt_more s n nu 127 j = if j = n then nu else s 127 j := by
  unfold kt_more
  rw [kn_up_ne _ _ _ (by decide), kn_up_row]
  rfl
theorem kt_fir {f i : Nat} (hb : ∀ i, i < len → s 125 i = t 132 i) (hl : len ≤ 120) (hi : i < len) (hn : s 123 3 = nI (3 * f)) (hlen : s 123 2 = nI len) (h2 : 6 * f ≤ i) :
    (kt_ok t len i = 0 → ∃ s9 n9, kf_rd 123 (len - i) i s 0 0 = (nI (kt_to t len i), s9) ∧ n9 ≤ 60 ∧ s9 123 3 = nI n9) ∧
    (¬ kt_ok t len i = 0 → ∃ s9, kf_rd 123 (len - i) i s 0 0 = kf_rd 123 (len - kt_to t len i) (kt_to t len i) s9 0 0 ∧ i + 6 ≤ kt_to t len i ∧ kt_to t len i ≤ len ∧ s9 123 3 = nI (3 * (f + 1)) ∧ s9 123 2 = nI len ∧ s9 125 = s 125 ∧ (∀ j, j < 3 * f → s9 127 j = s 127 j) ∧ s9 127 (3 * f) = (kt_a t len i).2.2 ∧ s9 127 (3 * f + 1) = (kt_b t len i).2.2 ∧ s9 127 (3 * f + 2) = (kt_c t len i).2.2) := by
  have e0 : kt_be (3 * f) = 32 := if_neg (by omega)
  have e1 : kt_be (3 * f + 1) = 32 := if_neg (by omega)
  have e2 : kt_be (3 * f + 1 + 1) = 59 := if_pos (by omega)
  have ha := kt_num1 (t := t) hb hl (by omega) (Or.inl hi) hn hlen (by omega)
  rw [e0] at ha
  change ((kt_a t len i).1 = 0 → kf_rd 123 (len - i) i s 0 0 = (nI (kt_a t len i).2.1, s)) ∧ (¬ (kt_a t len i).1 = 0 → kf_rd 123 (len - i) i s 0 0 = kf_rd 123 (len - (kt_a t len i).2.1) (kt_a t len i).2.1 (kt_more s (3 * f) (kt_a t len i).2.2) 0 0 ∧ i + 2 ≤ (kt_a t len i).2.1 ∧ (kt_a t len i).2.1 ≤ len) at ha
  unfold kt_ok kt_to
  by_cases q1 : (kt_a t len i).1 = 0
  · rw [if_pos q1, if_pos q1]
    exact ⟨fun _ => ⟨s, 3 * f, ha.1 q1, by omega, hn⟩, fun w => absurd rfl w⟩
  rw [if_neg q1, if_neg q1]
  obtain ⟨a1, a2, a3⟩ := ha.2 q1
  obtain ⟨m1, m2, m3⟩ := kt_more_125 s (3 * f) (kt_a t len i).2.2
  have m4 := kt_more_127 s (3 * f) (kt_a t len i).2.2
  generalize kt_more s (3 * f) (kt_a t len i).2.2 = s1 at a1 m1 m2 m3 m4
  have hb1 : ∀ i, i < len → s1 125 i = t 132 i := fun j hj => by rw [m1]; exact hb j hj
  have hB := kt_num1 (t := t) hb1 hl a3 (Or.inr (by omega)) m3 (m2.trans hlen) (by omega)
  rw [e1] at hB
  change ((kt_b t len i).1 = 0 → kf_rd 123 (len - (kt_a t len i).2.1) (kt_a t len i).2.1 s1 0 0 = (nI (kt_b t len i).2.1, s1)) ∧ (¬ (kt_b t len i).1 = 0 → kf_rd 123 (len - (kt_a t len i).2.1) (kt_a t len i).2.1 s1 0 0 = kf_rd 123 (len - (kt_b t len i).2.1) (kt_b t len i).2.1 (kt_more s1 (3 * f + 1) (kt_b t len i).2.2) 0 0 ∧ (kt_a t len i).2.1 + 2 ≤ (kt_b t len i).2.1 ∧ (kt_b t len i).2.1 ≤ len) at hB
  rw [a1]
  by_cases q2 : (kt_b t len i).1 = 0
  · rw [if_pos q2, if_pos q2]
    exact ⟨fun _ => ⟨s1, 3 * f + 1, hB.1 q2, by omega, m3⟩, fun w => absurd rfl w⟩
  rw [if_neg q2, if_neg q2]
  obtain ⟨b1, b2, b3⟩ := hB.2 q2
  obtain ⟨n1, n2, n3⟩ := kt_more_125 s1 (3 * f + 1) (kt_b t len i).2.2
  have n4 := kt_more_127 s1 (3 * f + 1) (kt_b t len i).2.2
  generalize kt_more s1 (3 * f + 1) (kt_b t len i).2.2 = s2 at b1 n1 n2 n3 n4
  have hb2 : ∀ i, i < len → s2 125 i = t 132 i := fun j hj => by rw [n1]; exact hb1 j hj
  have hC := kt_num1 (t := t) hb2 hl b3 (Or.inr (by omega)) n3 (n2.trans (m2.trans hlen)) (by omega)
  rw [e2] at hC
  change ((kt_c t len i).1 = 0 → kf_rd 123 (len - (kt_b t len i).2.1) (kt_b t len i).2.1 s2 0 0 = (nI (kt_c t len i).2.1, s2)) ∧ (¬ (kt_c t len i).1 = 0 → kf_rd 123 (len - (kt_b t len i).2.1) (kt_b t len i).2.1 s2 0 0 = kf_rd 123 (len - (kt_c t len i).2.1) (kt_c t len i).2.1 (kt_more s2 (3 * f + 1 + 1) (kt_c t len i).2.2) 0 0 ∧ (kt_b t len i).2.1 + 2 ≤ (kt_c t len i).2.1 ∧ (kt_c t len i).2.1 ≤ len) at hC
  rw [b1]
  refine ⟨fun q3 => ⟨s2, 3 * f + 1 + 1, hC.1 q3, by omega, n3⟩, fun q3 => ?_⟩
  obtain ⟨c1, c2, c3⟩ := hC.2 q3
  obtain ⟨o1, o2, o3⟩ := kt_more_125 s2 (3 * f + 1 + 1) (kt_c t len i).2.2
  have o4 := kt_more_127 s2 (3 * f + 1 + 1) (kt_c t len i).2.2
  refine ⟨_, c1, by omega, c3, o3, o2.trans (n2.trans (m2.trans hlen)), o1.trans (n1.trans m1), fun j hj => ?_, ?_, ?_, ?_⟩
  · rw [o4, if_neg (by omega), n4, if_neg (by omega), m4, if_neg (by omega)]
  · rw [o4, if_neg (by omega), n4, if_neg (by omega), m4, if_pos rfl]
  · rw [o4, if_neg (by omega), n4, if_pos rfl]
  · rw [o4, if_pos rfl]
/-- where the firing j begins -/
def kt_p (t : kn_S) (len : Nat) : Nat → Nat
  | 0 => 0
  | j + 1 => kt_to t len (kt_p t len j)
/-- the class keeps the numbers of the firing i -/
def kt_sto (s t : kn_S) (len i : Nat) : Prop := s 127 (3 * i) = (kt_a t len (kt_p t len i)).2.2 ∧ s 127 (3 * i + 1) = (kt_b t len (kt_p t len i)).2.2 ∧ s 127 (3 * i + 2) = (kt_c t len (kt_p t len i)).2.2
/-- F firings are there, and no more -/
def kt_F (t : kn_S) (len j F : Nat) : Prop := j ≤ F ∧ F ≤ 20 ∧ (∀ i, j ≤ i → i < F → kt_p t len i < len ∧ ¬ kt_ok t len (kt_p t len i) = 0) ∧ kt_p t len F = len
set_option maxHeartbeats 1000000 in
theorem kt_A (hl : len ≤ 120) : ∀ (r j : Nat) (s t1 : kn_S), len < r + kt_p t len j → kt_p t len j ≤ len → t1 132 = t 132 → (∀ i, i < len → s 125 i = t 132 i) → s 123 3 = nI (3 * j) → s 123 2 = nI len → 6 * j ≤ kt_p t len j → (∀ i, i < j → kt_sto s t len i) →
    (((kg_rpA len r (kt_p t len j) t1).1 = 1 ∧ (kf_rd 123 (len - kt_p t len j) (kt_p t len j) s 0 0).1 = nI (kg_rpA len r (kt_p t len j) t1).2.1 ∧ (kg_rpA len r (kt_p t len j) t1).2.1 ≤ len) ∨
     ((kg_rpA len r (kt_p t len j) t1).1 = 0 ∧ (kf_rd 123 (len - kt_p t len j) (kt_p t len j) s 0 0).1 = -1 ∧ ∃ F, kt_F t len j F ∧ (kf_rd 123 (len - kt_p t len j) (kt_p t len j) s 0 0).2 123 3 = nI (3 * F) ∧ ∀ i, i < F → kt_sto (kf_rd 123 (len - kt_p t len j) (kt_p t len j) s 0 0).2 t len i)) ∧
    (∃ n9, n9 ≤ 60 ∧ (kf_rd 123 (len - kt_p t len j) (kt_p t len j) s 0 0).2 123 3 = nI n9) ∧ (∀ a, a ≠ 128 → (kg_rpA len r (kt_p t len j) t1).2.2 a = t1 a) ∧ ∀ i, i ≤ 6 → (kg_rpA len r (kt_p t len j) t1).2.2 128 i = t1 128 i
  | 0, j, s, t1, hr, hp, ht, hb, hn, hlen, h6, hst => absurd hr (by omega)
  | r + 1, j, s, t1, hr, hp, ht, hb, hn, hlen, h6, hst => by
    obtain ⟨e1, e2, e3⟩ := kt_rf ht len (kt_p t len j)
    have fr1 : ∀ a, a ≠ 128 → (kg_rf t1 len (kt_p t len j)).2.2 a = t1 a := fun a ha => kg_rf_ne t1 len _ ha
    have fr2 : ∀ i, i ≤ 6 → (kg_rf t1 len (kt_p t len j)).2.2 128 i = t1 128 i := fun i hi => kg_rf_lo t1 len _ hi
    unfold kg_rpA
    by_cases q : len ≤ kt_p t len j
    · have hpl : kt_p t len j = len := by omega
      have hC := (kt_num (t := t) hb hl hp hn hlen (by omega)).1 hpl
      rw [if_pos q, hC, if_pos (by omega)]
      exact ⟨Or.inr ⟨rfl, rfl, j, ⟨Nat.le_refl _, by omega, fun i h1 h2 => absurd h1 (by omega), hpl⟩, hn, hst⟩, ⟨3 * j, by omega, hn⟩, fun _ _ => rfl, fun _ _ => rfl⟩
    rw [if_neg q, e1]
    have hf := kt_fir (t := t) hb hl (by omega) hn hlen h6
    by_cases q2 : kt_ok t len (kt_p t len j) = 0
    · rw [if_pos q2, e2]
      obtain ⟨s9, n9, w1, w2, w3⟩ := hf.1 q2
      rw [w1]
      have hto : kt_to t len (kt_p t len j) ≤ len := by rw [← e2]; exact (kg_rf_le t1 len _ hp).2.1
      exact ⟨Or.inl ⟨rfl, rfl, hto⟩, ⟨n9, w2, w3⟩, fr1, fr2⟩
    · rw [if_neg q2, e2]
      obtain ⟨s9, w1, w2, w3, w4, w5, w6, w7, w8, w9, w10⟩ := hf.2 q2
      rw [w1]
      obtain ⟨z1, z2, z3, z4⟩ := kt_A hl r (j + 1) s9 (kg_rf t1 len (kt_p t len j)).2.2 (by show len < r + kt_to t len (kt_p t len j); omega) w3 ((fr1 132 (by decide)).trans ht) (fun i hi => by rw [w6]; exact hb i hi) w4 w5 (by show 6 * (j + 1) ≤ kt_to t len (kt_p t len j); omega) (fun i hi => by
        by_cases k : i = j
        · subst k; exact ⟨w8, w9, w10⟩
        · obtain ⟨k1, k2, k3⟩ := hst i (by omega)
          refine ⟨?_, ?_, ?_⟩
          · rw [w7 _ (by omega)]; exact k1
          · rw [w7 _ (by omega)]; exact k2
          · rw [w7 _ (by omega)]; exact k3)
      refine ⟨?_, z2, fun a ha => (z3 a ha).trans (fr1 a ha), fun i hi => (z4 i hi).trans (fr2 i hi)⟩
      rcases z1 with z1 | ⟨y1, y2, F, ⟨y3, y4, y5, y6⟩, y7, y8⟩
      · exact Or.inl z1
      · refine Or.inr ⟨y1, y2, F, ⟨by omega, y4, fun i h1 h2 => ?_, y6⟩, y7, y8⟩
        by_cases k : i = j
        · subst k; exact ⟨by omega, q2⟩
        · exact y5 i (by omega) h2
theorem kt_numb {j : Nat} (w : Nat) (hj : j < 20) (hw : w ≤ 2) : kf_numb s 123 (nI j) (nI w) = s 127 (3 * j + w) := by
  unfold kf_numb
  rw [show (3 : Int32) = nI 3 from rfl, pk_mul, nI_add, kf_at_nI (by decide) (by omega)]
theorem kt_numbs {j : Nat} (hj : j < 20) (h : kt_sto s t len j) : kf_numb s 123 (nI j) 0 = (kt_a t len (kt_p t len j)).2.2 ∧ kf_numb s 123 (nI j) 1 = (kt_b t len (kt_p t len j)).2.2 ∧ kf_numb s 123 (nI j) 2 = (kt_c t len (kt_p t len j)).2.2 :=
  ⟨(kt_numb 0 hj (by decide)).trans h.1, (kt_numb 1 hj (by decide)).trans h.2.1, (kt_numb 2 hj (by decide)).trans h.2.2⟩
/-- the firing i may be treated -/
def kt_good (t : kn_S) (len i : Nat) : Prop := ¬ kf_isFir (kt_a t len (kt_p t len i)).2.2 (kt_b t len (kt_p t len i)).2.2 (kt_c t len (kt_p t len i)).2.2 = 0
theorem kt_B {F : Nat} (hF : F ≤ 20) (hpF : kt_p t len F = len) (hst : ∀ i, i < F → kt_sto s t len i) : ∀ (d j r : Nat) (t1 : kn_S), j + d = F → len < r + kt_p t len j → (∀ i, j ≤ i → i < F → kt_p t len i < len ∧ ¬ kt_ok t len (kt_p t len i) = 0) → t1 132 = t 132 →
    (((kg_rpB len r (kt_p t len j) j t1).1 = 1 ∧ kf_fw s d j = nI (kg_rpB len r (kt_p t len j) j t1).2.1 ∧ (kg_rpB len r (kt_p t len j) j t1).2.1 ≤ 20) ∨
     ((kg_rpB len r (kt_p t len j) j t1).1 = 0 ∧ kf_fw s d j = -1 ∧ (kg_rpB len r (kt_p t len j) j t1).2.1 = F ∧ ∀ i, j ≤ i → i < F → kt_good t len i)) ∧
    (∀ a, a ≠ 128 → (kg_rpB len r (kt_p t len j) j t1).2.2 a = t1 a) ∧ ∀ i, i ≤ 6 → (kg_rpB len r (kt_p t len j) j t1).2.2 128 i = t1 128 i
  | 0, j, r, t1, hd, hr, hok, ht => by
    obtain rfl : j = F := by omega
    rw [hpF] at hr ⊢
    obtain ⟨r', rfl⟩ : ∃ r', r = r' + 1 := ⟨r - 1, by omega⟩
    unfold kg_rpB
    rw [if_pos (Nat.le_refl _)]
    exact ⟨Or.inr ⟨rfl, rfl, rfl, fun i h1 h2 => absurd h1 (by omega)⟩, fun _ _ => rfl, fun _ _ => rfl⟩
  | d + 1, j, r, t1, hd, hr, hok, ht => by
    obtain ⟨o1, o2⟩ := hok j (Nat.le_refl _) (by omega)
    obtain ⟨r', rfl⟩ : ∃ r', r = r' + 1 := ⟨r - 1, by omega⟩
    obtain ⟨e1, e2, e3⟩ := kt_rf ht len (kt_p t len j)
    obtain ⟨e9, e10, e11⟩ := e3 o2
    obtain ⟨n0, n1, n2⟩ := kt_numbs (s := s) (by omega) (hst j (by omega))
    have fr1 : ∀ a, a ≠ 128 → (kg_rf t1 len (kt_p t len j)).2.2 a = t1 a := fun a ha => kg_rf_ne t1 len _ ha
    have fr2 : ∀ i, i ≤ 6 → (kg_rf t1 len (kt_p t len j)).2.2 128 i = t1 128 i := fun i hi => kg_rf_lo t1 len _ hi
    have hlt := (kg_rf_le t1 len (kt_p t len j) (by omega)).2.2 (by rw [e1]; exact o2)
    rw [e2] at hlt
    have hfok : kg_fok (kg_rf t1 len (kt_p t len j)).2.2 = kf_isFir (kt_a t len (kt_p t len j)).2.2 (kt_b t len (kt_p t len j)).2.2 (kt_c t len (kt_p t len j)).2.2 := by
      unfold kg_fok
      rw [e9, e10, e11]
      rfl
    unfold kg_rpB kf_fw
    rw [if_neg (by omega), if_neg (by rw [e1]; exact o2), hfok, e2, n0, n1, n2]
    by_cases q : kf_isFir (kt_a t len (kt_p t len j)).2.2 (kt_b t len (kt_p t len j)).2.2 (kt_c t len (kt_p t len j)).2.2 = 0
    · rw [if_pos q, if_pos q]
      exact ⟨Or.inl ⟨rfl, rfl, by show j ≤ 20; omega⟩, fr1, fr2⟩
    · rw [if_neg q, if_neg q]
      obtain ⟨z1, z2, z3⟩ := kt_B hF hpF hst d (j + 1) r' (kg_rf t1 len (kt_p t len j)).2.2 (by omega) (by show len < r' + kt_to t len (kt_p t len j); omega) (fun i h1 h2 => hok i (by omega) h2) ((fr1 132 (by decide)).trans ht)
      refine ⟨?_, fun a ha => (z2 a ha).trans (fr1 a ha), fun i hi => (z3 i hi).trans (fr2 i hi)⟩
      rcases z1 with z1 | ⟨y1, y2, y3, y4⟩
      · exact Or.inl z1
      · refine Or.inr ⟨y1, y2, y3, fun i h1 h2 => ?_⟩
        by_cases k : i = j
        · subst k; exact q
        · exact y4 i (by omega) h2
theorem kt_C {F m fi : Nat} (hF : F ≤ 20) (hpF : kt_p t len F = len) (hst : ∀ i, i < F → kt_sto s t len i) (hg : ∀ i, i < F → kt_good t len i) (hfi : fi + F < 2 ^ 31) : ∀ (d j r : Nat) (t1 : kn_S), j + d = F → len < r + kt_p t len j → (∀ i, j ≤ i → i < F → kt_p t len i < len ∧ ¬ kt_ok t len (kt_p t len i) = 0) → t1 132 = t 132 → kr_R (kf_rep m s j) 1 (t1 129) m (fi + j) →
    kr_R (kf_rep m s F) 1 (kg_rpC len m r (kt_p t len j) t1 129) m (fi + F) ∧ kg_okC len m r (kt_p t len j) t1 ∧ (∀ a, a ≠ 128 → a ≠ 129 → kg_rpC len m r (kt_p t len j) t1 a = t1 a) ∧ ∀ i, i ≤ 6 → kg_rpC len m r (kt_p t len j) t1 128 i = t1 128 i
  | 0, j, r, t1, hd, hr, hok, ht, hR => by
    obtain rfl : j = F := by omega
    rw [hpF] at hr ⊢
    obtain ⟨r', rfl⟩ : ∃ r', r = r' + 1 := ⟨r - 1, by omega⟩
    unfold kg_rpC kg_okC
    rw [if_pos (Nat.le_refl _)]
    exact ⟨hR, Or.inl (Nat.le_refl _), fun _ _ _ => rfl, fun _ _ => rfl⟩
  | d + 1, j, r, t1, hd, hr, hok, ht, hR => by
    obtain ⟨o1, o2⟩ := hok j (Nat.le_refl _) (by omega)
    obtain ⟨r', rfl⟩ : ∃ r', r = r' + 1 := ⟨r - 1, by omega⟩
    obtain ⟨e1, e2, e3⟩ := kt_rf ht len (kt_p t len j)
    obtain ⟨e9, e10, e11⟩ := e3 o2
    have hsj : kt_sto (kf_rep m s j) t len j := by
      obtain ⟨k1, k2, k3⟩ := hst j (by omega)
      refine ⟨?_, ?_, ?_⟩ <;> rw [kf_rep_ne m s (by decide)] <;> assumption
    obtain ⟨n0, n1, n2⟩ := kt_numbs (by omega) hsj
    have fr1 : ∀ a, a ≠ 128 → (kg_rf t1 len (kt_p t len j)).2.2 a = t1 a := fun a ha => kg_rf_ne t1 len _ ha
    have fr2 : ∀ i, i ≤ 6 → (kg_rf t1 len (kt_p t len j)).2.2 128 i = t1 128 i := fun i hi => kg_rf_lo t1 len _ hi
    have hlt := (kg_rf_le t1 len (kt_p t len j) (by omega)).2.2 (by rw [e1]; exact o2)
    rw [e2] at hlt
    obtain ⟨g1, g2⟩ := kr_and (hg j (by omega))
    obtain ⟨cl, c1, c2⟩ := kr_cell g1
    have he : kr_le (kt_c t len (kt_p t len j)).2.2 20000 := by
      have := kr_within g2
      have z0 : (0 : Int32).toInt = 0 := by decide
      have z1 : (20000 : Int32).toInt = 20000 := by decide
      exact kr_le_of (by decide) (by omega) (by omega)
    have hcl : kg_cl (kg_rf t1 len (kt_p t len j)).2.2 = cl := by
      unfold kg_cl
      rw [e9, e10, c1, nI_clamp (by omega)]
    have hR1 : kr_R (kf_rep m s j) 1 ((kg_rf t1 len (kt_p t len j)).2.2 129) m (fi + j) := by rw [fr1 129 (by decide)]; exact hR
    obtain ⟨t1', t2', t3'⟩ := kr_treat hR1 he c1 c2 (by omega)
    have hrep : kf_rep m s (j + 1) = kf_treat (kf_rep m s j) 1 m (kt_a t len (kt_p t len j)).2.2 (kt_b t len (kt_p t len j)).2.2 (kt_c t len (kt_p t len j)).2.2 := by
      show kf_treat (kf_rep m s j) 1 m (kf_numb (kf_rep m s j) 123 (nI j) 0) (kf_numb (kf_rep m s j) 123 (nI j) 1) (kf_numb (kf_rep m s j) 123 (nI j) 2) = _
      rw [n0, n1, n2]
    unfold kg_rpC kg_okC
    rw [if_neg (by omega), if_neg (by rw [e1]; exact o2), e2, hcl, e9, e10, e11]
    obtain ⟨z1, z2, z3, z4⟩ := kt_C hF hpF hst hg hfi d (j + 1) r' (kg_tr (kg_rf t1 len (kt_p t len j)).2.2 m cl (kt_c t len (kt_p t len j)).2.2) (by omega) (by show len < r' + kt_to t len (kt_p t len j); omega) (fun i h1 h2 => hok i (by omega) h2) (by rw [kg_tr_ne _ _ _ _ (by decide), fr1 132 (by decide), ht]) (by rw [hrep]; exact t1')
    refine ⟨z1, Or.inr (Or.inr ⟨⟨c1, c2, t3'⟩, z2⟩), fun a h1 h2 => ?_, fun i hi => ?_⟩
    · rw [show kt_to t len (kt_p t len j) = kt_p t len (j + 1) from rfl, z3 a h1 h2, kg_tr_ne _ _ _ _ h2, fr1 a h1]
    · rw [show kt_to t len (kt_p t len j) = kt_p t len (j + 1) from rfl, z4 i hi, kg_tr_ne _ _ _ _ (by decide), fr2 i hi]
end KRX
