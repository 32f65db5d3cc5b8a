-- the model's row
theorem kg_add {x y : Int32} {a b : Nat} (h : x = nI a) (h2 : y = nI b) : x + y = nI (a + b) := by rw [h, h2]; exact nI_add a b
theorem kg_mul {x y : Int32} {a b : Nat} (h : x = nI a) (h2 : y = nI b) : x * y = nI (a * b) := by rw [h, h2]; exact (Int32.ofNat_mul a b).symm
section KG
variable {X : kn_X} {M : kn_M} {pc : Nat} {lv : kn_L} {σ : kn_S} {τ : kn_T} {z : kn_Z} {c n : Nat} {Q : kn_Q} {st : List Value} {i : Nat}
theorem k_ialoadN {x : Int32} {len : Nat} (k : Nat) (hd : decode M.2.1 pc = .ok (.iaload, 1)) (hi : i < z.1) (hz : z.2 i = .inr (.inl (0, len))) (hx : x = nI k) (hk : k < len ∧ len < 2 ^ 31)
    (kk : kn_Go X M (pc + 1) lv (.int (σ i k) :: st) σ τ z c n Q) : kn_Go X M pc lv (.int x :: .ref i :: st) σ τ z c n Q := by
  subst hx
  refine k_iaload hd hi hz (vp_in_nI hk.1 hk.2) ?_
  rw [nI_clamp (by omega)]
  exact kk
theorem k_ialoadV {x v : Int32} {len : Nat} (k : Nat) (hd : decode M.2.1 pc = .ok (.iaload, 1)) (hi : i < z.1) (hz : z.2 i = .inr (.inl (0, len))) (hx : x = nI k) (hk : k < len ∧ len < 2 ^ 31) (hv : σ i k = v)
    (kk : kn_Go X M (pc + 1) lv (.int v :: st) σ τ z c n Q) : kn_Go X M pc lv (.int x :: .ref i :: st) σ τ z c n Q :=
  k_ialoadN k hd hi hz hx hk (hv ▸ kk)
theorem k_iastoreN {x v : Int32} {len : Nat} (k : Nat) (hd : decode M.2.1 pc = .ok (.iastore, 1)) (hi : i < z.1) (hz : z.2 i = .inr (.inl (0, len))) (hx : x = nI k) (hk : k < len ∧ len < 2 ^ 31)
    (kk : kn_Go X M (pc + 1) lv st (kn_up σ i k v) τ z c n Q) : kn_Go X M pc lv (.int v :: .int x :: .ref i :: st) σ τ z c n Q := by
  subst hx
  refine k_iastore hd hi hz (vp_in_nI hk.1 hk.2) ?_
  rw [nI_clamp (by omega)]
  exact kk
end KG
/-- the model: its object at 128, its row, what it saved, what it laid aside, its text -/
def kn_isM (z : kn_Z) : Prop := (128 < z.1 ∧ z.2 128 = .inl (6, [some (.ref 129), some (.ref 130), some (.ref 131), none, none, some (.ref 132), none, none, none, none, none, none, some (.long 0)])) ∧ (129 < z.1 ∧ z.2 129 = .inr (.inl (0, 254))) ∧ (130 < z.1 ∧ z.2 130 = .inr (.inl (0, 1016))) ∧ (131 < z.1 ∧ z.2 131 = .inr (.inl (0, 254))) ∧ (132 < z.1 ∧ z.2 132 = .inr (.inl (0, 120)))
theorem kf_min_le {a b : Int32} (h : b ≤ a) : kf_min a b = b := by
  unfold kf_min
  split
  · rfl
  · rename_i h2
    rw [Int32.lt_iff_toInt_lt] at h2
    rw [Int32.le_iff_toInt_le] at h
    exact Int32.toInt_inj.mp (by omega)
theorem kf_min_gt {a b : Int32} (h : ¬ b ≤ a) : kf_min a b = a := by
  unfold kf_min
  rw [if_neg]
  intro h2
  rw [Int32.lt_iff_toInt_lt] at h2
  rw [Int32.le_iff_toInt_le] at h
  omega
def kg_fl (a b : Int32) : Int32 := if 0 ≤ a - a / b * b then a / b else a / b - 1
/-- the row's places from lo on hold v, k of them -/
def kg_fill (s : kn_S) (lo : Nat) (v : Int32) : Nat → kn_S
  | 0 => s
  | k + 1 => kn_up (kg_fill s lo v k) 129 (lo + k) v
def kg_cpy (s : kn_S) (b d b2 d2 : Nat) : Nat → kn_S
  | 0 => s
  | k + 1 => kn_up (kg_cpy s b d b2 d2 k) b (d + k) (kg_cpy s b d b2 d2 k b2 (d2 + k))
theorem kg_cpy_ne (s : kn_S) {b d b2 d2 b' : Nat} (h : b' ≠ b) : ∀ k, kg_cpy s b d b2 d2 k b' = s b'
  | 0 => rfl
  | k + 1 => by
    show kn_up (kg_cpy s b d b2 d2 k) b (d + k) _ b' = s b'
    rw [kn_up_ne _ _ _ h, kg_cpy_ne s h k]
def kg_begins (s : kn_S) (v : Int32) : kn_S := kg_fill (kn_up (kg_fill (kn_up (kn_up s 129 8 v) 129 9 0) 12 0 242) 129 16 (-1)) 25 51200 8
/-- four rows kept: one is dropped first -/
def kg_saves (s : kn_S) (sv : Nat) : kn_S := if sv = 4 then kn_up (kg_cpy (kn_up (kg_cpy s 130 0 130 254 762) 128 3 (nI 3)) 130 762 129 0 254) 128 3 (nI 4) else kn_up (kg_cpy s 130 (254 * sv) 129 0 254) 128 3 (nI (sv + 1))
def kg_undo (s : kn_S) (sv : Nat) : kn_S := kg_cpy (kn_up s 128 3 (nI sv)) 129 0 130 (254 * sv) 254
theorem kg_saves_ne (s : kn_S) (sv : Nat) {b' : Nat} (h1 : b' ≠ 130) (h2 : b' ≠ 128) : kg_saves s sv b' = s b' := by
  unfold kg_saves
  split
  · rw [kn_up_ne _ _ _ h2, kg_cpy_ne _ h1, kn_up_ne _ _ _ h2, kg_cpy_ne _ h1]
  · rw [kn_up_ne _ _ _ h2, kg_cpy_ne _ h1]
theorem kn_ofint0 : (0 : Int32) = nI 0 := rfl

