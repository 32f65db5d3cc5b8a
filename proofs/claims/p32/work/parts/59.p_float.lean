-- floating numbers: none is a NaN
theorem fq_T : FP.Core.b32.tails = 8388608 := by decide
theorem fq_E : FP.Core.b32.exps = 256 := by decide
theorem fq_p : 2 ^ FP.Core.b32.p = 16777216 := by decide
theorem fq_q0 : FP.Core.b32.qmin = -149 := by decide
theorem fq_q9 : FP.Core.b32.qmax = 104 := by decide
def fq_ok (d : FP.Core.Datum) : Prop := match d with
  | .nan => False
  | .inf _ => True
  | .fin _ c q => c < 8388608 ∨ (c < 16777216 ∧ q ≤ 104)
theorem fq_enc {d : FP.Core.Datum} (h : fq_ok d) : FP.Core.encode FP.Core.b32 d % 2147483648 ≤ 2139095040 ∧ FP.Core.encode FP.Core.b32 d < 4294967296 := by
  cases d with
  | nan => exact absurd h id
  | inf s => cases s <;> decide
  | fin s c q =>
    have h : c < 8388608 ∨ (c < 16777216 ∧ q ≤ 104) := h
    show (if c < FP.Core.b32.tails then FP.Core.assemble FP.Core.b32 s 0 c else FP.Core.assemble FP.Core.b32 s ((q - FP.Core.b32.qmin).toNat + 1) (c - FP.Core.b32.tails)) % 2147483648 ≤ 2139095040 ∧ (if c < FP.Core.b32.tails then FP.Core.assemble FP.Core.b32 s 0 c else FP.Core.assemble FP.Core.b32 s ((q - FP.Core.b32.qmin).toNat + 1) (c - FP.Core.b32.tails)) < 4294967296
    unfold FP.Core.assemble
    rw [fq_T, fq_E, fq_q0]
    split
    · cases s
      · rw [show Bool.toNat false = 0 from rfl]; omega
      · rw [show Bool.toNat true = 1 from rfl]; omega
    · have : (q - -149).toNat ≤ 253 := by omega
      cases s
      · rw [show Bool.toNat false = 0 from rfl]; omega
      · rw [show Bool.toNat true = 1 from rfl]; omega
theorem fq_bound (s : Bool) {c : Nat} (q : Int) (h : c < 16777216) : fq_ok (FP.Core.bound FP.Core.b32 s c q) := by
  unfold FP.Core.bound
  rw [fq_q9]
  split
  · exact Or.inr ⟨h, by assumption⟩
  · trivial
theorem fq_rr (s : Bool) (num den : Nat) (e : Int) : fq_ok (FP.Core.roundRatio FP.Core.b32 s num den e) := by
  unfold FP.Core.roundRatio
  split
  · exact Or.inl (by decide)
  · unfold FP.Core.roundAt FP.Core.settle
    rw [fq_p, fq_T]
    split
    · exact fq_bound _ _ (by assumption)
    · exact fq_bound _ _ (by decide)
theorem fq_n {d : FP.Core.Datum} (h : fq_ok d) : vf_n32 (UInt32.ofNat (FP.Core.encode FP.Core.b32 d)) := by
  obtain ⟨h1, h2⟩ := fq_enc h
  unfold vf_n32
  rw [UInt32.le_iff_toNat_le, UInt32.toNat_and, UInt32.toNat_ofNat_of_lt' h2]
  show FP.Core.encode FP.Core.b32 d &&& (2 ^ 31 - 1) ≤ 2139095040
  rw [Nat.and_two_pow_sub_one_eq_mod]
  exact h1
theorem fq_dec {r : UInt32} (h : vf_n32 r) : FP.Core.decode FP.Core.b32 r.toNat ≠ .nan := by
  unfold vf_n32 at h
  rw [UInt32.le_iff_toNat_le, UInt32.toNat_and] at h
  change r.toNat &&& (2 ^ 31 - 1) ≤ 2139095040 at h
  rw [Nat.and_two_pow_sub_one_eq_mod] at h
  unfold FP.Core.decode FP.Core.fieldE FP.Core.fieldT
  rw [fq_T, fq_E]
  split
  · split
    · exact FP.Core.Datum.noConfusion
    · omega
  · split
    · exact FP.Core.Datum.noConfusion
    · exact FP.Core.Datum.noConfusion
theorem fq_round {d : FP.Core.Datum} (h : d ≠ .nan) : fq_ok (FP.Core.round FP.Core.b32 d) := by
  cases d with
  | nan => exact absurd rfl h
  | inf s => trivial
  | fin s c q => exact fq_rr s c 1 q
theorem fq_mul {g : UInt32} (h : vf_n32 g) {k : UInt32} {s : Bool} {c : Nat} {q : Int} (hk : FP.Core.decode FP.Core.b32 k.toNat = .fin s c q) (hc : c ≠ 0) : vf_n32 (FP.fmul g k) := by
  refine fq_n (fq_round ?_)
  rw [hk]
  have h1 := fq_dec h
  cases hd : FP.Core.decode FP.Core.b32 g.toNat with
  | nan => exact absurd hd h1
  | inf s1 =>
    show (if c = 0 then FP.Core.Datum.nan else FP.Core.Datum.inf (s1 != s)) ≠ .nan
    rw [if_neg hc]
    exact FP.Core.Datum.noConfusion
  | fin s1 c1 q1 => exact FP.Core.Datum.noConfusion
theorem fq_mul2 (g : UInt32) (h : vf_n32 g) : vf_n32 (FP.fmul g 0x40000000) := fq_mul h (show FP.Core.decode FP.Core.b32 (0x40000000 : UInt32).toNat = .fin false 8388608 (-22) by decide +kernel) (by decide)
theorem fq_sub1 (g : UInt32) (h : vf_n32 g) : vf_n32 (FP.fsub g 0x3f800000) ∧ vf_n32 (FP.fmul (FP.fsub g 0x3f800000) 1258291200) := by
  have key : vf_n32 (FP.fsub g 0x3f800000) := by
    refine fq_n (fq_round ?_)
    rw [show FP.Core.decode FP.Core.b32 (0x3f800000 : UInt32).toNat = .fin false 8388608 (-23) by decide +kernel]
    have h1 := fq_dec h
    cases hd : FP.Core.decode FP.Core.b32 g.toNat with
    | nan => exact absurd hd h1
    | inf s1 => exact FP.Core.Datum.noConfusion
    | fin s1 c1 q1 => exact FP.Core.Datum.noConfusion
  exact ⟨key, fq_mul key (show FP.Core.decode FP.Core.b32 (1258291200 : UInt32).toNat = .fin false 8388608 0 by decide +kernel) (by decide)⟩
-- exact roundings
theorem fq_nearest1 (X : Nat) : FP.Core.nearest X 1 = X := by
  unfold FP.Core.nearest
  rw [if_pos (by omega), Nat.div_one]
theorem fq_nearestM {X d : Nat} (hd : 0 < d) : FP.Core.nearest (X * d) d = X := by
  unfold FP.Core.nearest
  rw [Nat.mul_mod_left, if_pos (by omega), Nat.mul_div_cancel X hd]
theorem fq_settle (s : Bool) {c : Nat} {q : Int} (h : c < 16777216) (hq : q ≤ 104) : FP.Core.settle FP.Core.b32 s c q = .fin s c q := by
  unfold FP.Core.settle FP.Core.bound
  rw [fq_p, if_pos h, fq_q9, if_pos hq]
theorem fq_log {X a : Nat} (h1 : 8388608 ≤ X) (h2 : X < 16777216) : (X * 2 ^ a).log2 = 23 + a := by
  have hp : 0 < 2 ^ a := Nat.two_pow_pos a
  have h3 : 0 < X * 2 ^ a := Nat.mul_pos (by omega) hp
  rw [Nat.log2_eq_iff (by omega), Nat.pow_add, show 23 + a + 1 = 24 + a by omega, Nat.pow_add]
  exact ⟨Nat.mul_le_mul_right _ h1, Nat.mul_lt_mul_of_pos_right h2 hp⟩
theorem fq_lead1 {n k : Nat} (h1 : 2 ^ k ≤ n) (h2 : n < 2 ^ (k + 1)) : FP.Core.leading n 1 = (k : Int) := by
  have h0 : n ≠ 0 := by have := Nat.two_pow_pos k; omega
  have e1 : n.log2 = k := (Nat.log2_eq_iff h0).mpr ⟨h1, h2⟩
  have e2 : Nat.log2 1 = 0 := by decide
  unfold FP.Core.leading
  rw [e1, e2]
  dsimp only
  have e3 : ((k : Int) - ((0 : Nat) : Int)).toNat = k := by omega
  have e4 : (-((k : Int) - ((0 : Nat) : Int))).toNat = 0 := by omega
  rw [e3, e4, Nat.one_mul, Nat.pow_zero, Nat.mul_one, if_pos h1]
  omega
/-- a number that fits, written with a more digits -/
theorem fq_exUp (s : Bool) {X a : Nat} {e : Int} (h1 : 8388608 ≤ X) (h2 : X < 16777216) (h3 : -149 ≤ e + a) (h4 : e + a ≤ 104) : FP.Core.roundRatio FP.Core.b32 s (X * 2 ^ a) 1 e = .fin s X (e + a) := by
  have hp : 0 < 2 ^ a := Nat.two_pow_pos a
  have h0 : X * 2 ^ a ≠ 0 := by have := Nat.mul_pos (show 0 < X by omega) hp; omega
  have hl : FP.Core.leading (X * 2 ^ a) 1 = ((23 + a : Nat) : Int) := by
    refine fq_lead1 ?_ ?_
    · rw [Nat.pow_add]; exact Nat.mul_le_mul_right _ h1
    · rw [show 23 + a + 1 = 24 + a by omega, Nat.pow_add]; exact Nat.mul_lt_mul_of_pos_right h2 hp
  have hq : FP.Core.quantum FP.Core.b32 (X * 2 ^ a) 1 e = e + a := by
    unfold FP.Core.quantum
    rw [hl, fq_q0, show ((FP.Core.b32.p : Nat) : Int) = 24 by decide]
    omega
  unfold FP.Core.roundRatio
  rw [if_neg h0, hq]
  unfold FP.Core.roundAt FP.Core.unitsNum FP.Core.unitsDen
  rw [show (e - (e + (a : Int))).toNat = 0 by omega, show (e + (a : Int) - e).toNat = a by omega, Nat.pow_zero, Nat.mul_one, Nat.one_mul, fq_nearestM hp]
  exact fq_settle s h2 h4
/-- .. with b digits fewer -/
theorem fq_exDn (s : Bool) {T b : Nat} {e : Int} (h1 : 8388608 ≤ T * 2 ^ b) (h2 : T * 2 ^ b < 16777216) (h3 : -149 ≤ e - b) (h4 : e - b ≤ 104) : FP.Core.roundRatio FP.Core.b32 s T 1 e = .fin s (T * 2 ^ b) (e - b) := by
  have hp : 0 < 2 ^ b := Nat.two_pow_pos b
  have h0 : T ≠ 0 := by intro q; rw [q, Nat.zero_mul] at h1; omega
  have hb : b ≤ 23 := by
    rcases Nat.lt_or_ge 23 b with q | q
    · have h5 : 2 ^ 24 ≤ 2 ^ b := Nat.pow_le_pow_right (by decide) q
      have h6 : 1 * 2 ^ b ≤ T * 2 ^ b := Nat.mul_le_mul_right _ (by omega)
      omega
    · exact q
  have hs : 2 ^ (23 - b) * 2 ^ b = 8388608 := by rw [← Nat.pow_add, show 23 - b + b = 23 by omega]
  have hs2 : 2 ^ (23 - b + 1) * 2 ^ b = 16777216 := by rw [← Nat.pow_add, show 23 - b + 1 + b = 24 by omega]
  have hl : FP.Core.leading T 1 = ((23 - b : Nat) : Int) := by
    refine fq_lead1 ?_ ?_
    · exact Nat.le_of_mul_le_mul_right (by rw [hs]; exact h1) hp
    · exact Nat.lt_of_mul_lt_mul_right (a := 2 ^ b) (by rw [hs2]; exact h2)
  have hq : FP.Core.quantum FP.Core.b32 T 1 e = e - b := by
    unfold FP.Core.quantum
    rw [hl, fq_q0, show ((FP.Core.b32.p : Nat) : Int) = 24 by decide]
    omega
  unfold FP.Core.roundRatio
  rw [if_neg h0, hq]
  unfold FP.Core.roundAt FP.Core.unitsNum FP.Core.unitsDen
  rw [show (e - (e - (b : Int))).toNat = b by omega, show (e - (b : Int) - e).toNat = 0 by omega, Nat.pow_zero, Nat.mul_one, fq_nearest1]
  exact fq_settle s h2 h4
/-- the bits of a positive number that fits -/
theorem fq_encN {c : Nat} {q : Int} (h1 : 8388608 ≤ c) : FP.Core.encode FP.Core.b32 (.fin false c q) = ((q + 149).toNat + 1) * 8388608 + (c - 8388608) := by
  show (if c < FP.Core.b32.tails then FP.Core.assemble FP.Core.b32 false 0 c else FP.Core.assemble FP.Core.b32 false ((q - FP.Core.b32.qmin).toNat + 1) (c - FP.Core.b32.tails)) = _
  unfold FP.Core.assemble
  rw [fq_T, fq_E, fq_q0, if_neg (by omega), show Bool.toNat false = 0 from rfl, show q - -149 = q + 149 by omega]
  omega
theorem fq_decN {E T : Nat} (h1 : 1 ≤ E) (h2 : E ≤ 254) (h3 : T < 8388608) : FP.Core.decode FP.Core.b32 (E * 8388608 + T) = .fin false (8388608 + T) (E - 150) := by
  unfold FP.Core.decode FP.Core.fieldE FP.Core.fieldT FP.Core.fieldS
  rw [fq_T, fq_E, fq_q0]
  have e1 : (E * 8388608 + T) / 8388608 = E := by omega
  have e2 : (E * 8388608 + T) % 8388608 = T := by omega
  rw [e1, e2, Nat.mod_eq_of_lt (show E < 256 by omega), if_neg (by omega), if_neg (by omega), show E / 256 = 0 by omega]
  show FP.Core.Datum.fin false (8388608 + T) (-149 + ((E : Int) - 1)) = _
  rw [show (-149 + ((E : Int) - 1)) = (E : Int) - 150 by omega]
theorem fq_ed {c : Nat} {q : Int} (h1 : 8388608 ≤ c) (h2 : c < 16777216) (h3 : -149 ≤ q) (h4 : q ≤ 104) : FP.Core.decode FP.Core.b32 (UInt32.ofNat (FP.Core.encode FP.Core.b32 (.fin false c q))).toNat = .fin false c q := by
  have hlt := (fq_enc (d := .fin false c q) (Or.inr ⟨h2, h4⟩)).2
  rw [UInt32.toNat_ofNat_of_lt' hlt, fq_encN h1]
  have hE : (q + 149).toNat + 1 ≤ 254 := by omega
  rw [fq_decN (by omega) hE (by omega), show 8388608 + (c - 8388608) = c by omega]
  congr 1
  omega
/-- an int that a float holds exactly -/
theorem fq_i2f {k : Nat} (h1 : 0 < k) (h2 : k < 16777216) : ∃ b : Nat, b ≤ 23 ∧ 8388608 ≤ k * 2 ^ b ∧ k * 2 ^ b < 16777216 ∧ FP.Core.decode FP.Core.b32 (FP.i2f (nI k)).toNat = .fin false (k * 2 ^ b) (-(b : Int)) := by
  have hL1 := Nat.log2_self_le (show k ≠ 0 by omega)
  have hL2 := Nat.lt_log2_self (n := k)
  have hL : k.log2 ≤ 23 := by
    rcases Nat.lt_or_ge 23 k.log2 with q | q
    · have : 2 ^ 24 ≤ 2 ^ k.log2 := Nat.pow_le_pow_right (by decide) q
      omega
    · exact q
  have hb1 : 8388608 ≤ k * 2 ^ (23 - k.log2) := by
    have := Nat.mul_le_mul_right (2 ^ (23 - k.log2)) hL1
    rw [← Nat.pow_add, show k.log2 + (23 - k.log2) = 23 by omega] at this
    exact this
  have hb2 : k * 2 ^ (23 - k.log2) < 16777216 := by
    have := Nat.mul_lt_mul_of_pos_right hL2 (Nat.two_pow_pos (23 - k.log2))
    rw [← Nat.pow_add, show k.log2 + 1 + (23 - k.log2) = 24 by omega] at this
    exact this
  refine ⟨23 - k.log2, by omega, hb1, hb2, ?_⟩
  have e1 : FP.i2f (nI k) = UInt32.ofNat (FP.Core.encode FP.Core.b32 (FP.Core.roundRatio FP.Core.b32 false k 1 0)) := by
    show UInt32.ofNat (FP.Core.encode FP.Core.b32 (FP.Core.round FP.Core.b32 (FP.Core.ofInt (nI k).toInt))) = _
    rw [nI_toInt (by omega)]
    unfold FP.Core.ofInt
    rw [show decide ((k : Int) < 0) = false from decide_eq_false (by omega), Int.natAbs_natCast]
    rfl
  rw [e1, fq_exDn false hb1 hb2 (by omega) (by omega), fq_ed hb1 hb2 (by omega) (by omega)]
  congr 1
  omega

