-- the rate's bits; the octane number
theorem fr_near (num den : Nat) : num / den ≤ FP.Core.nearest num den ∧ FP.Core.nearest num den ≤ num / den + 1 := by
  unfold FP.Core.nearest
  generalize num / den = Q
  split
  · omega
  split
  · omega
  · omega
theorem fr_bits {c : Nat} {q : Int} (h1 : 8388608 ≤ c) (h2 : c ≤ 16777216) (hq : -149 ≤ q) (hq2 : q ≤ -24) : 8388608 ≤ FP.Core.encode FP.Core.b32 (FP.Core.settle FP.Core.b32 false c q) ∧ FP.Core.encode FP.Core.b32 (FP.Core.settle FP.Core.b32 false c q) ≤ 1065353216 := by
  unfold FP.Core.settle FP.Core.bound
  rw [fq_p, fq_T, fq_q9]
  by_cases w : c < 16777216
  · rw [if_pos w, if_pos (by omega), fq_encN h1]
    omega
  · rw [if_neg w, if_pos (by omega), fq_encN (by omega)]
    omega
theorem fr_q {c1 c2 : Nat} {E : Int} (h1 : 8388608 ≤ c1) (h2 : c1 < 16777216) (h3 : 8388608 ≤ c2) (h4 : c2 < 16777216) (hE : -100 ≤ E) (hE0 : E ≤ 0) (hE1 : E = 0 → c1 ≤ c2) : 8388608 ≤ FP.Core.encode FP.Core.b32 (FP.Core.roundRatio FP.Core.b32 false c1 c2 E) ∧ FP.Core.encode FP.Core.b32 (FP.Core.roundRatio FP.Core.b32 false c1 c2 E) ≤ 1065353216 := by
  have g1 : c1.log2 = 23 := (Nat.log2_eq_iff (by omega)).mpr ⟨h1, h2⟩
  have g2 : c2.log2 = 23 := (Nat.log2_eq_iff (by omega)).mpr ⟨h3, h4⟩
  have hlead : FP.Core.leading c1 c2 = if c2 ≤ c1 then 0 else -1 := by
    unfold FP.Core.leading
    rw [g1, g2]
    dsimp only
    rw [show ((23 : Nat) : Int) - ((23 : Nat) : Int) = 0 by decide, show (0 : Int).toNat = 0 by decide, show (-(0 : Int)).toNat = 0 by decide, Nat.pow_zero, Nat.mul_one, Nat.mul_one]
    rfl
  unfold FP.Core.roundRatio
  rw [if_neg (by omega)]
  unfold FP.Core.quantum FP.Core.roundAt FP.Core.unitsNum FP.Core.unitsDen
  rw [hlead, fq_q0, show ((FP.Core.b32.p : Nat) : Int) = 24 by decide]
  by_cases hk : c2 ≤ c1
  · rw [if_pos hk, show max (-149) (0 + E - (24 - 1)) = E - 23 by omega, show (E - (E - 23)).toNat = 23 by omega, show (E - 23 - E).toNat = 0 by omega, Nat.pow_zero, Nat.mul_one, show (2 : Nat) ^ 23 = 8388608 by decide]
    by_cases q : E = 0
    · obtain rfl : c1 = c2 := by have := hE1 q; omega
      rw [Nat.mul_comm, fq_nearestM (by omega), q, fq_settle false (by decide) (by decide), fq_encN (by decide)]
      decide
    · have hn := fr_near (c1 * 8388608) c2
      have d1 : 8388608 ≤ c1 * 8388608 / c2 := (Nat.le_div_iff_mul_le (by omega)).mpr (by omega)
      have d2 : c1 * 8388608 / c2 < 16777216 := (Nat.div_lt_iff_lt_mul (by omega)).mpr (by omega)
      exact fr_bits (by omega) (by omega) (by omega) (by omega)
  · rw [if_neg hk, show max (-149) (-1 + E - (24 - 1)) = E - 24 by omega, show (E - (E - 24)).toNat = 24 by omega, show (E - 24 - E).toNat = 0 by omega, Nat.pow_zero, Nat.mul_one, show (2 : Nat) ^ 24 = 16777216 by decide]
    have hn := fr_near (c1 * 16777216) c2
    have d1 : 8388608 ≤ c1 * 16777216 / c2 := (Nat.le_div_iff_mul_le (by omega)).mpr (by omega)
    have d2 : c1 * 16777216 / c2 < 16777216 := (Nat.div_lt_iff_lt_mul (by omega)).mpr (by omega)
    exact fr_bits (by omega) (by omega) (by omega) (by omega)
theorem fr_div {n d : Nat} (h1 : 0 < n) (h2 : n ≤ d) (h3 : d < 16777216) : 8388608 ≤ (FP.fdiv (FP.i2f (nI n)) (FP.i2f (nI d))).toNat ∧ (FP.fdiv (FP.i2f (nI n)) (FP.i2f (nI d))).toNat ≤ 1065353216 := by
  obtain ⟨b1, hb1, l1, u1, d1⟩ := fq_i2f (k := n) h1 (by omega)
  obtain ⟨b2, hb2, l2, u2, d2⟩ := fq_i2f (k := d) (by omega) h3
  have hb : b2 ≤ b1 := by
    rcases Nat.lt_or_ge b1 b2 with q | q
    · have h5 : n * 2 ^ b2 ≤ d * 2 ^ b2 := Nat.mul_le_mul_right _ h2
      have h6 : n * 2 ^ (b1 + 1) ≤ n * 2 ^ b2 := Nat.mul_le_mul_left _ (Nat.pow_le_pow_right (by decide) q)
      rw [Nat.pow_succ, ← Nat.mul_assoc] at h6
      omega
    · exact q
  have hc : b1 = b2 → n * 2 ^ b1 ≤ d * 2 ^ b2 := fun q => by rw [q]; exact Nat.mul_le_mul_right _ h2
  have key : FP.fdiv (FP.i2f (nI n)) (FP.i2f (nI d)) = UInt32.ofNat (FP.Core.encode FP.Core.b32 (FP.Core.roundRatio FP.Core.b32 false (n * 2 ^ b1) (d * 2 ^ b2) (-(b1 : Int) - -(b2 : Int)))) := by
    show UInt32.ofNat (FP.Core.encode FP.Core.b32 (FP.Core.quotient FP.Core.b32 (FP.Core.decode FP.Core.b32 (FP.i2f (nI n)).toNat) (FP.Core.decode FP.Core.b32 (FP.i2f (nI d)).toNat))) = _
    rw [d1, d2]
    show UInt32.ofNat (FP.Core.encode FP.Core.b32 (if d * 2 ^ b2 = 0 then _ else _)) = _
    rw [if_neg (by omega)]
    rfl
  have hq := fr_q (E := -(b1 : Int) - -(b2 : Int)) l1 u1 l2 u2 (by omega) (by omega) (fun q => hc (by omega))
  rw [key, UInt32.toNat_ofNat_of_lt' (by show _ < 4294967296; omega)]
  exact hq
theorem fr_div0 {d : Nat} (h1 : 0 < d) (h3 : d < 16777216) : FP.fdiv (FP.i2f (nI 0)) (FP.i2f (nI d)) = 0 := by
  obtain ⟨b2, hb2, l2, u2, d2⟩ := fq_i2f (k := d) h1 h3
  show UInt32.ofNat (FP.Core.encode FP.Core.b32 (FP.Core.quotient FP.Core.b32 (FP.Core.decode FP.Core.b32 (FP.i2f (nI 0)).toNat) (FP.Core.decode FP.Core.b32 (FP.i2f (nI d)).toNat))) = _
  rw [d2, show FP.Core.decode FP.Core.b32 (FP.i2f (nI 0)).toNat = .fin false 0 (-149) by decide +kernel]
  show UInt32.ofNat (FP.Core.encode FP.Core.b32 (if d * 2 ^ b2 = 0 then _ else _)) = _
  rw [if_neg (by omega)]
  rfl
-- comparisons
theorem fr_lt {a b : Int} (h : a < b) : compare a b = .lt := by
  show compareOfLessAndEq a b = .lt
  unfold compareOfLessAndEq
  rw [if_pos h]
theorem fr_eq (a : Int) : compare a a = .eq := by
  show compareOfLessAndEq a a = .eq
  unfold compareOfLessAndEq
  rw [if_neg (Int.lt_irrefl a), if_pos rfl]
theorem fr_gt {a b : Int} (h : b < a) : compare a b = .gt := by
  show compareOfLessAndEq a b = .gt
  unfold compareOfLessAndEq
  rw [if_neg (by omega), if_neg (by omega)]
theorem fr_self {d : FP.Core.Datum} (h : d ≠ .nan) : FP.Core.order d d = some .eq := by
  cases d with
  | nan => exact absurd rfl h
  | inf s => exact congrArg some (fr_eq _)
  | fin s c q => exact congrArg some (fr_eq _)
theorem fr_nan {f : UInt32} (h : vf_n32 f) : kg_nan f = 0 := by
  unfold kg_nan
  rw [show FP.fcmp f f = some .eq from fr_self (fq_dec h)]
  rfl
section FRB
variable {E T : Nat}
theorem fr_toN (h2 : E ≤ 254) (h3 : T < 8388608) : (UInt32.ofNat (E * 8388608 + T)).toNat = E * 8388608 + T := UInt32.toNat_ofNat_of_lt' (by show _ < 4294967296; omega)
theorem fr_cmpL (h1 : 1 ≤ E) (h2 : E ≤ 126) (h3 : T < 8388608) : Op.cmpValue (FP.fcmp (UInt32.ofNat (E * 8388608 + T)) 0x3f800000) .g = -1 := by
  show Op.cmpValue (FP.Core.order (FP.Core.decode FP.Core.b32 (UInt32.ofNat (E * 8388608 + T)).toNat) (FP.Core.decode FP.Core.b32 (0x3f800000 : UInt32).toNat)) .g = -1
  rw [fr_toN (by omega) h3, fq_decN h1 (by omega) h3, show FP.Core.decode FP.Core.b32 (0x3f800000 : UInt32).toNat = .fin false 8388608 (-23) by decide +kernel]
  show Op.cmpValue (some (compare (FP.Core.signed false (FP.Core.inUnits (8388608 + T) ((E : Int) - 150) (min ((E : Int) - 150) (-23)))) (FP.Core.signed false (FP.Core.inUnits 8388608 (-23) (min ((E : Int) - 150) (-23)))))) .g = -1
  rw [show min ((E : Int) - 150) (-23) = (E : Int) - 150 by omega]
  unfold FP.Core.inUnits
  rw [show ((E : Int) - 150 - ((E : Int) - 150)).toNat = 0 by omega, show (-23 - ((E : Int) - 150)).toNat = 126 - E + 1 by omega, Nat.pow_zero, Nat.mul_one, Nat.pow_succ]
  have hp := Nat.two_pow_pos (126 - E)
  rw [fr_lt]
  · rfl
  · show ((8388608 + T : Nat) : Int) < ((8388608 * (2 ^ (126 - E) * 2) : Nat) : Int)
    omega
theorem fr_cmpG (h3 : T < 8388608) : 0 ≤ Op.cmpValue (FP.fcmp (UInt32.ofNat (127 * 8388608 + T)) 0x3f800000) .g := by
  show 0 ≤ Op.cmpValue (FP.Core.order (FP.Core.decode FP.Core.b32 (UInt32.ofNat (127 * 8388608 + T)).toNat) (FP.Core.decode FP.Core.b32 (0x3f800000 : UInt32).toNat)) .g
  rw [fr_toN (by omega) h3, fq_decN (by omega) (by omega) h3, show FP.Core.decode FP.Core.b32 (0x3f800000 : UInt32).toNat = .fin false 8388608 (-23) by decide +kernel]
  show 0 ≤ Op.cmpValue (some (compare (FP.Core.signed false (FP.Core.inUnits (8388608 + T) (((127 : Nat) : Int) - 150) (min (((127 : Nat) : Int) - 150) (-23)))) (FP.Core.signed false (FP.Core.inUnits 8388608 (-23) (min (((127 : Nat) : Int) - 150) (-23)))))) .g
  rw [show min (((127 : Nat) : Int) - 150) (-23) = -23 by decide]
  unfold FP.Core.inUnits
  rw [show (((127 : Nat) : Int) - 150 - -23).toNat = 0 by decide, show ((-23 : Int) - -23).toNat = 0 by decide, Nat.pow_zero, Nat.mul_one, Nat.mul_one]
  show 0 ≤ Op.cmpValue (some (compare ((8388608 + T : Nat) : Int) ((8388608 : Nat) : Int))) .g
  by_cases q : T = 0
  · subst q
    rw [fr_eq]
    decide
  · rw [fr_gt (by omega)]
    decide
theorem fr_cmp0 (h1 : 1 ≤ E) (h2 : E ≤ 254) (h3 : T < 8388608) : 0 < Op.cmpValue (FP.fcmp (UInt32.ofNat (E * 8388608 + T)) 0) .l := by
  show 0 < Op.cmpValue (FP.Core.order (FP.Core.decode FP.Core.b32 (UInt32.ofNat (E * 8388608 + T)).toNat) (FP.Core.decode FP.Core.b32 (0 : UInt32).toNat)) .l
  rw [fr_toN h2 h3, fq_decN h1 h2 h3, show FP.Core.decode FP.Core.b32 (0 : UInt32).toNat = .fin false 0 (-149) by decide +kernel]
  show 0 < Op.cmpValue (some (compare (FP.Core.signed false (FP.Core.inUnits (8388608 + T) ((E : Int) - 150) (min ((E : Int) - 150) (-149)))) (FP.Core.signed false (FP.Core.inUnits 0 (-149) (min ((E : Int) - 150) (-149)))))) .l
  have hp : ∀ k, 0 < (8388608 + T) * 2 ^ k := fun k => Nat.mul_pos (by omega) (Nat.two_pow_pos k)
  rw [fr_gt]
  · decide
  · show ((0 * 2 ^ _ : Nat) : Int) < (((8388608 + T) * 2 ^ _ : Nat) : Int)
    have := hp ((E : Int) - 150 - min ((E : Int) - 150) (-149)).toNat
    rw [Nat.zero_mul]
    omega
theorem fr_dbl (h1 : 1 ≤ E) (h2 : E ≤ 253) (h3 : T < 8388608) : FP.fmul (UInt32.ofNat (E * 8388608 + T)) 0x40000000 = UInt32.ofNat ((E + 1) * 8388608 + T) := by
  show UInt32.ofNat (FP.Core.encode FP.Core.b32 (FP.Core.round FP.Core.b32 (FP.Core.exactProduct (FP.Core.decode FP.Core.b32 (UInt32.ofNat (E * 8388608 + T)).toNat) (FP.Core.decode FP.Core.b32 (0x40000000 : UInt32).toNat)))) = _
  rw [fr_toN (by omega) h3, fq_decN h1 (by omega) h3, show FP.Core.decode FP.Core.b32 (0x40000000 : UInt32).toNat = .fin false 8388608 (-22) by decide +kernel]
  show UInt32.ofNat (FP.Core.encode FP.Core.b32 (FP.Core.roundRatio FP.Core.b32 false ((8388608 + T) * 2 ^ 23) 1 ((E : Int) - 150 + -22))) = _
  rw [fq_exUp false (by omega) (by omega) (by omega) (by omega), fq_encN (by omega)]
  exact congrArg UInt32.ofNat (by omega)
theorem fr_bosL (h3 : T < 8388608) : ∀ j i, i ≤ j → j ≤ 126 → kf_bosL j (UInt32.ofNat ((127 - i) * 8388608 + T)) = (UInt32.ofNat (127 * 8388608 + T), j + 1 - i)
  | 0, i, hi, _ => by
    obtain rfl : i = 0 := by omega
    rfl
  | j + 1, 0, _, hj => by
    unfold kf_bosL
    rw [if_pos (fr_cmpG h3)]
    rfl
  | j + 1, i + 1, hi, hj => by
    unfold kf_bosL
    rw [fr_cmpL (by omega) (by omega) h3, if_neg (by decide), fr_dbl (by omega) (by omega) h3, show 127 - (i + 1) + 1 = 127 - i by omega, fr_bosL h3 j i (by omega) (by omega), show j + 1 + 1 - (i + 1) = j + 1 - i by omega]
theorem fr_frac (h3 : T < 8388608) : FP.f2i (FP.fmul (FP.fsub (UInt32.ofNat (127 * 8388608 + T)) 0x3f800000) 1258291200) = nI T := by
  by_cases q : T = 0
  · subst q
    decide +kernel
  have hL1 := Nat.log2_self_le (show T ≠ 0 by omega)
  have hL2 := Nat.lt_log2_self (n := T)
  have hL : T.log2 ≤ 22 := by
    rcases Nat.lt_or_ge 22 T.log2 with w | w
    · have : 2 ^ 23 ≤ 2 ^ T.log2 := Nat.pow_le_pow_right (by decide) w
      omega
    · exact w
  obtain ⟨b, hb⟩ : ∃ b, b = 23 - T.log2 := ⟨_, rfl⟩
  have hb1 : 8388608 ≤ T * 2 ^ b := by
    have := Nat.mul_le_mul_right (2 ^ b) hL1
    rw [← Nat.pow_add, show T.log2 + b = 23 by omega] at this
    exact this
  have hb2 : T * 2 ^ b < 16777216 := by
    have := Nat.mul_lt_mul_of_pos_right hL2 (Nat.two_pow_pos b)
    rw [← Nat.pow_add, show T.log2 + 1 + b = 24 by omega] at this
    exact this
  have hsub : FP.Core.decode FP.Core.b32 (FP.fsub (UInt32.ofNat (127 * 8388608 + T)) 0x3f800000).toNat = .fin false (T * 2 ^ b) (-23 - b) := by
    show FP.Core.decode FP.Core.b32 (UInt32.ofNat (FP.Core.encode FP.Core.b32 (FP.Core.round FP.Core.b32 (FP.Core.exactSum (FP.Core.decode FP.Core.b32 (UInt32.ofNat (127 * 8388608 + T)).toNat) (FP.Core.negate (FP.Core.decode FP.Core.b32 (0x3f800000 : UInt32).toNat)))))).toNat = _
    rw [fr_toN (by omega) h3, fq_decN (by omega) (by omega) h3, show FP.Core.decode FP.Core.b32 (0x3f800000 : UInt32).toNat = .fin false 8388608 (-23) by decide +kernel]
    have hu : FP.Core.sumUnits false (8388608 + T) (((127 : Nat) : Int) - 150) true 8388608 (-23) (min (((127 : Nat) : Int) - 150) (-23)) = (T : Int) := by
      show (((8388608 + T) * 1 : Nat) : Int) + -((8388608 * 1 : Nat) : Int) = (T : Int)
      omega
    show FP.Core.decode FP.Core.b32 (UInt32.ofNat (FP.Core.encode FP.Core.b32 (FP.Core.round FP.Core.b32 (.fin (FP.Core.sumSign false true (FP.Core.sumUnits false (8388608 + T) (((127 : Nat) : Int) - 150) true 8388608 (-23) (min (((127 : Nat) : Int) - 150) (-23)))) (FP.Core.sumUnits false (8388608 + T) (((127 : Nat) : Int) - 150) true 8388608 (-23) (min (((127 : Nat) : Int) - 150) (-23))).natAbs (min (((127 : Nat) : Int) - 150) (-23)))))).toNat = _
    rw [hu, Int.natAbs_natCast]
    unfold FP.Core.sumSign
    rw [if_neg (by omega), show decide ((T : Int) < 0) = false from decide_eq_false (by omega), show min (((127 : Nat) : Int) - 150) (-23) = -23 by decide]
    show FP.Core.decode FP.Core.b32 (UInt32.ofNat (FP.Core.encode FP.Core.b32 (FP.Core.roundRatio FP.Core.b32 false T 1 (-23)))).toNat = _
    rw [fq_exDn false hb1 hb2 (by omega) (by omega), fq_ed hb1 hb2 (by omega) (by omega)]
  have hmul : FP.Core.decode FP.Core.b32 (FP.fmul (FP.fsub (UInt32.ofNat (127 * 8388608 + T)) 0x3f800000) 1258291200).toNat = .fin false (T * 2 ^ b) (-(b : Int)) := by
    show FP.Core.decode FP.Core.b32 (UInt32.ofNat (FP.Core.encode FP.Core.b32 (FP.Core.round FP.Core.b32 (FP.Core.exactProduct (FP.Core.decode FP.Core.b32 (FP.fsub (UInt32.ofNat (127 * 8388608 + T)) 0x3f800000).toNat) (FP.Core.decode FP.Core.b32 (1258291200 : UInt32).toNat))))).toNat = _
    rw [hsub, show FP.Core.decode FP.Core.b32 (1258291200 : UInt32).toNat = .fin false 8388608 0 by decide +kernel]
    show FP.Core.decode FP.Core.b32 (UInt32.ofNat (FP.Core.encode FP.Core.b32 (FP.Core.roundRatio FP.Core.b32 false (T * 2 ^ b * 2 ^ 23) 1 (-23 - (b : Int) + 0)))).toNat = _
    rw [fq_exUp false hb1 hb2 (by omega) (by omega), fq_ed hb1 hb2 (by omega) (by omega)]
    congr 1
    omega
  show FP.Core.toI (FP.Core.decode FP.Core.b32 (FP.fmul (FP.fsub (UInt32.ofNat (127 * 8388608 + T)) 0x3f800000) 1258291200).toNat) = nI T
  rw [hmul]
  show Int32.ofInt (max (-2 ^ 31) (min (2 ^ 31 - 1) (FP.Core.truncate false (T * 2 ^ b) (-(b : Int))))) = nI T
  have ht : FP.Core.truncate false (T * 2 ^ b) (-(b : Int)) = (T : Int) := by
    unfold FP.Core.truncate
    rw [show (-(b : Int)).toNat = 0 by omega, show (- -(b : Int)).toNat = b by omega, Nat.pow_zero, Nat.mul_one, Nat.mul_div_cancel _ (Nat.two_pow_pos b)]
    rfl
  rw [ht, show max (-2 ^ 31) (min (2 ^ 31 - 1) (T : Int)) = (T : Int) by omega]
  exact Int32.ofInt_eq_ofNat
theorem fr_bos (h1 : 1 ≤ E) (h2 : E ≤ 127) (h3 : T < 8388608) : kf_bos (UInt32.ofNat (E * 8388608 + T)) = nI (E * 8388608 + T) := by
  unfold kf_bos
  rw [if_pos (fr_cmp0 h1 (by omega) h3)]
  have h := fr_bosL h3 126 (127 - E) (by omega) (by omega)
  rw [show 127 - (127 - E) = E by omega] at h
  rw [h]
  unfold kf_bosR
  dsimp only
  rw [fr_frac h3, show (8388608 : Int32) = nI 8388608 from rfl, pk_mul, nI_add]
end FRB
/-- the rate: its bits are what the class makes of it, and it is a number -/
theorem fr_rate {n d : Nat} (h1 : n ≤ d) (h2 : 0 < d) (h3 : d < 16777216) : vf_n32 (FP.fdiv (FP.i2f (nI n)) (FP.i2f (nI d))) ∧ kf_bos (FP.fdiv (FP.i2f (nI n)) (FP.i2f (nI d))) = (FP.fdiv (FP.i2f (nI n)) (FP.i2f (nI d))).toInt32 := by
  by_cases q : n = 0
  · subst q
    rw [fr_div0 h2 h3]
    exact ⟨by unfold vf_n32; decide, by decide +kernel⟩
  obtain ⟨b1, b2⟩ := fr_div (n := n) (by omega) h1 h3
  generalize FP.fdiv (FP.i2f (nI n)) (FP.i2f (nI d)) = f at b1 b2 ⊢
  refine ⟨?_, ?_⟩
  · unfold vf_n32
    rw [UInt32.le_iff_toNat_le, UInt32.toNat_and]
    show f.toNat &&& (2 ^ 31 - 1) ≤ 2139095040
    rw [Nat.and_two_pow_sub_one_eq_mod]
    omega
  · have hE : f = UInt32.ofNat (f.toNat / 8388608 * 8388608 + f.toNat % 8388608) := by
      rw [Nat.div_add_mod']
      exact UInt32.ofNat_toNat.symm
    have h := fr_bos (E := f.toNat / 8388608) (T := f.toNat % 8388608) (by omega) (by omega) (Nat.mod_lt _ (by decide))
    rw [← hE, Nat.div_add_mod'] at h
    rw [h]
    have : f.toInt32 = (UInt32.ofNat f.toNat).toInt32 := by rw [UInt32.ofNat_toNat]
    rw [this]
    rfl
theorem fd_T : FP.Core.b64.tails = 4503599627370496 := by decide
theorem fd_E : FP.Core.b64.exps = 2048 := by decide
theorem fd_p : 2 ^ FP.Core.b64.p = 9007199254740992 := by decide
theorem fd_q0 : FP.Core.b64.qmin = -1074 := by decide
theorem fd_q9 : FP.Core.b64.qmax = 971 := by decide
def fd_ok (d : FP.Core.Datum) : Prop := match d with
  | .nan => False
  | .inf _ => True
  | .fin _ c q => c < 4503599627370496 ∨ (c < 9007199254740992 ∧ q ≤ 971)
theorem fd_enc {d : FP.Core.Datum} (h : fd_ok d) : FP.Core.encode FP.Core.b64 d % 9223372036854775808 ≤ 9218868437227405312 ∧ FP.Core.encode FP.Core.b64 d < 18446744073709551616 := by
  cases d with
  | nan => exact absurd h id
  | inf s => cases s <;> decide
  | fin s c q =>
    have h : c < 4503599627370496 ∨ (c < 9007199254740992 ∧ q ≤ 971) := h
    show (if c < FP.Core.b64.tails then FP.Core.assemble FP.Core.b64 s 0 c else FP.Core.assemble FP.Core.b64 s ((q - FP.Core.b64.qmin).toNat + 1) (c - FP.Core.b64.tails)) % 9223372036854775808 ≤ 9218868437227405312 ∧ (if c < FP.Core.b64.tails then FP.Core.assemble FP.Core.b64 s 0 c else FP.Core.assemble FP.Core.b64 s ((q - FP.Core.b64.qmin).toNat + 1) (c - FP.Core.b64.tails)) < 18446744073709551616
    unfold FP.Core.assemble
    rw [fd_T, fd_E, fd_q0]
    split
    · cases s
      · rw [show Bool.toNat false = 0 from rfl]; omega
      · rw [show Bool.toNat true = 1 from rfl]; omega
    · have : (q - -1074).toNat ≤ 2045 := by omega
      cases s
      · rw [show Bool.toNat false = 0 from rfl]; omega
      · rw [show Bool.toNat true = 1 from rfl]; omega
theorem fd_bound (s : Bool) {c : Nat} (q : Int) (h : c < 9007199254740992) : fd_ok (FP.Core.bound FP.Core.b64 s c q) := by
  unfold FP.Core.bound
  rw [fd_q9]
  split
  · exact Or.inr ⟨h, by assumption⟩
  · trivial
theorem fd_rr (s : Bool) (num den : Nat) (e : Int) : fd_ok (FP.Core.roundRatio FP.Core.b64 s num den e) := by
  unfold FP.Core.roundRatio
  split
  · exact Or.inl (by decide)
  · unfold FP.Core.roundAt FP.Core.settle
    rw [fd_p, fd_T]
    split
    · exact fd_bound _ _ (by assumption)
    · exact fd_bound _ _ (by decide)
theorem fd_n {d : FP.Core.Datum} (h : fd_ok d) : vf_n64 (UInt64.ofNat (FP.Core.encode FP.Core.b64 d)) := by
  obtain ⟨h1, h2⟩ := fd_enc h
  unfold vf_n64
  rw [UInt64.le_iff_toNat_le, UInt64.toNat_and, UInt64.toNat_ofNat_of_lt' h2]
  show FP.Core.encode FP.Core.b64 d &&& (2 ^ 63 - 1) ≤ 9218868437227405312
  rw [Nat.and_two_pow_sub_one_eq_mod]
  exact h1
theorem fd_dec {r : UInt64} (h : vf_n64 r) : FP.Core.decode FP.Core.b64 r.toNat ≠ .nan := by
  unfold vf_n64 at h
  rw [UInt64.le_iff_toNat_le, UInt64.toNat_and] at h
  change r.toNat &&& (2 ^ 63 - 1) ≤ 9218868437227405312 at h
  rw [Nat.and_two_pow_sub_one_eq_mod] at h
  unfold FP.Core.decode FP.Core.fieldE FP.Core.fieldT
  rw [fd_T, fd_E]
  split
  · split
    · exact FP.Core.Datum.noConfusion
    · omega
  · split
    · exact FP.Core.Datum.noConfusion
    · exact FP.Core.Datum.noConfusion
theorem fd_round {d : FP.Core.Datum} (h : d ≠ .nan) : fd_ok (FP.Core.round FP.Core.b64 d) := by
  cases d with
  | nan => exact absurd rfl h
  | inf s => trivial
  | fin s c q => exact fd_rr s c 1 q
theorem fd_i2d (a : Int32) : vf_n64 (FP.i2d a) := fd_n (fd_round FP.Core.Datum.noConfusion)
theorem fd_div {g k : UInt64} (h : vf_n64 g) {s : Bool} {c : Nat} {q : Int} (hk : FP.Core.decode FP.Core.b64 k.toNat = .fin s c q) (hc : c ≠ 0) : vf_n64 (FP.ddiv g k) := by
  show vf_n64 (UInt64.ofNat (FP.Core.encode FP.Core.b64 (FP.Core.quotient FP.Core.b64 (FP.Core.decode FP.Core.b64 g.toNat) (FP.Core.decode FP.Core.b64 k.toNat))))
  refine fd_n ?_
  rw [hk]
  have h1 := fd_dec h
  cases hd : FP.Core.decode FP.Core.b64 g.toNat with
  | nan => exact absurd hd h1
  | inf s1 => trivial
  | fin s1 c1 q1 =>
    show fd_ok (if c = 0 then _ else _)
    rw [if_neg hc]
    exact fd_rr _ _ _ _
theorem fd_oct (a : Int32) {k : Nat} (h1 : 1 ≤ k) (h2 : k ≤ 6) : vf_n64 (FP.ddiv (FP.i2d a) (FP.i2d (nI k))) ∧ vf_n64 (FP.ddiv (FP.ddiv (FP.i2d a) (FP.i2d (nI k))) 4611686018427387904) ∧ vf_n64 (FP.dsub 4636737291354636288 (FP.ddiv (FP.ddiv (FP.i2d a) (FP.i2d (nI k))) 4611686018427387904)) := by
  have hk : ∃ (s : Bool) (c : Nat) (q : Int), FP.Core.decode FP.Core.b64 (FP.i2d (nI k)).toNat = .fin s c q ∧ c ≠ 0 := by
    have : k = 1 ∨ k = 2 ∨ k = 3 ∨ k = 4 ∨ k = 5 ∨ k = 6 := by omega
    rcases this with rfl | rfl | rfl | rfl | rfl | rfl
    · exact ⟨false, 4503599627370496, -52, by decide +kernel, by decide⟩
    · exact ⟨false, 4503599627370496, -51, by decide +kernel, by decide⟩
    · exact ⟨false, 6755399441055744, -51, by decide +kernel, by decide⟩
    · exact ⟨false, 4503599627370496, -50, by decide +kernel, by decide⟩
    · exact ⟨false, 5629499534213120, -50, by decide +kernel, by decide⟩
    · exact ⟨false, 6755399441055744, -50, by decide +kernel, by decide⟩
  obtain ⟨s, c, q, hk1, hk2⟩ := hk
  have h3 := fd_div (fd_i2d a) hk1 hk2
  have h4 := fd_div h3 (show FP.Core.decode FP.Core.b64 (4611686018427387904 : UInt64).toNat = .fin false 4503599627370496 (-51) by decide +kernel) (by decide)
  refine ⟨h3, h4, fd_n (fd_round ?_)⟩
  rw [show FP.Core.decode FP.Core.b64 (4636737291354636288 : UInt64).toNat = .fin false 7036874417766400 (-46) by decide +kernel]
  have h5 := fd_dec h4
  cases hd : FP.Core.decode FP.Core.b64 (FP.ddiv (FP.ddiv (FP.i2d a) (FP.i2d (nI k))) 4611686018427387904).toNat with
  | nan => exact absurd hd h5
  | inf s1 => exact FP.Core.Datum.noConfusion
  | fin s1 c1 q1 => exact FP.Core.Datum.noConfusion

