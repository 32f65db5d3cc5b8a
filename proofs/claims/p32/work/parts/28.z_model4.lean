-- the model: what it tells
def kg_isN (n : Nat) (x : Int32) : Int32 := kf_within x 0 (nI n - 1)
theorem kg_isN_nI {n : Nat} {x : Int32} (hn : n < 2 ^ 31) (h : ¬ kg_isN n x = 0) : ∃ j, j < n ∧ x = nI j := by
  unfold kg_isN at h
  cases n with
  | zero =>
    exfalso
    unfold kf_within at h
    by_cases h1 : x < 0
    · rw [if_pos h1] at h; exact h rfl
    · rw [if_neg h1, if_pos] at h
      · exact h rfl
      · rw [Int32.lt_iff_toInt_lt] at h1 ⊢
        have e0 : (0 : Int32).toInt = 0 := rfl
        have e1 : (nI 0 - 1).toInt = -1 := by decide +kernel
        omega
  | succ n =>
    rw [nI_pred] at h
    obtain ⟨j, hj, e⟩ := kf_within_nI (n := n) rfl (by omega) h
    exact ⟨j, by omega, e⟩
def kg_dr (s : kn_S) (m cl : Nat) (x y w : Int32) : Nat → Int32 × kn_S
  | 0 => (0, s)
  | j + 1 => ((kg_dr s m cl x y w j).1 + (if kg_fa (kg_dr s m cl x y w j).2 m cl x y w = 1 then 1 else 0), kg_fs (kg_dr s m cl x y w j).2 m cl x y w)
def kg_tell (s : kn_S) (cc : Nat) (w : Int32) : Int32 := if w = 0 then s 129 (17 + cc) else if w = 1 then s 129 (25 + cc) else if w = 2 then s 129 (33 + cc) else if w = 3 then kg_thr s cc else s 129 (41 + cc)
def kg_lf (s : kn_S) (m : Nat) : Nat → Int32
  | 0 => kg_gr s m
  | j + 1 => kf_min (kg_lf s m j) (s 129 (17 + j))
def kg_evo (s : kn_S) (x : Int32) : Nat → Int32
  | 0 => 0
  | j + 1 => kg_evo s x j + (if s 129 (74 + 3 * j) = x then 1 else 0)
def kg_oc (s : kn_S) (k : Nat) : Nat → Int32 × Int32
  | 0 => (0, 0)
  | j + 1 => ((kg_oc s k j).1 + s 129 (49 + 4 * j + k), (kg_oc s k j).2 + (if s 129 (49 + 4 * j + k) ≤ 0 then 0 else 1))
def kg_ocR (p : Int32 × Int32) : UInt64 := if p.2 = 0 then 4636737291354636288 else FP.dsub 4636737291354636288 (FP.ddiv (FP.ddiv (FP.i2d p.1) (FP.i2d p.2)) 4611686018427387904)
def kg_exf (s : kn_S) (g : Nat → Int32) (x v a : Int32) : Nat → Int32
  | 0 => a
  | j + 1 => if g j = x then (if v = 0 then kf_min (kg_exf s g x v a j) (s 129 (49 + j)) else if s 129 (49 + j) ≤ kg_exf s g x v a j then kg_exf s g x v a j else s 129 (49 + j)) else kg_exf s g x v a j
theorem kn_upT_up (t : kn_T) (i k : Nat) (x y : Int64) : kn_upT (kn_upT t i k x) i k y = kn_upT t i k y := by
  funext a b
  unfold kn_upT
  split
  · rfl
  · rfl
def kg_hA (f : Nat → Int32) (a : Nat) (h : Int64) : Nat → Int64
  | 0 => h
  | j + 1 => 31 * kg_hA f a h j + (f (a + j)).toInt64

