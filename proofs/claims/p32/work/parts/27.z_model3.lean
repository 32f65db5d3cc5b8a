-- the model: a firing
def kg_evens (s : kn_S) (m : Nat) : kn_S := kg_ev s (kg_gr s m - s 129 4) m
def kg_cc (s : kn_S) (m : Nat) : Nat := (s 129 9).toNatClampNeg % m
def kg_t4 (s : kn_S) (cc cl : Nat) (e : Int32) : kn_S := if e ≤ kg_thr s cc then kg_re s cc e else kg_kn s cc cl e (kg_thr s cc)
def kg_t5 (s : kn_S) (m cl : Nat) : kn_S := if s 129 15 < s 129 5 then s else if s 129 15 - s 129 15 / nI m * nI m = 0 then kg_le s m cl else s
def kg_t6 (s : kn_S) : kn_S := kn_up s 129 9 (s 129 9 + 1)
def kg_tr2 (s : kn_S) (m cc cl : Nat) (e : Int32) : kn_S := if s 129 12 = 0 then kg_t6 (kg_t5 (kg_evens (kg_t4 s cc cl e) m) m cl) else kg_t6 s
def kg_ti (s : kn_S) (cc : Nat) (e : Int32) : Int32 := if s 129 12 = 0 then (if e ≤ kg_thr s cc then 0 else 1) else 2
def kg_t3 (s : kn_S) (cl : Nat) (e : Int32) : kn_S := kn_up (kn_up (kg_sen s e) 129 15 (if nI cl = kg_sen s e 129 16 then kg_sen s e 129 15 + 1 else 0)) 129 16 (nI cl)
def kg_tr (s : kn_S) (m cl : Nat) (e : Int32) : kn_S := kg_tr2 (kg_t3 s cl e) m (kg_cc s m) cl e
def kg_ta (s : kn_S) (m cl : Nat) (e : Int32) : Int32 := kg_ti (kg_t3 s cl e) (kg_cc s m) e
/-- what a firing asks of the row -/
def kg_tp (s : kn_S) (m cl : Nat) (e : Int32) : Prop := (s 129 8 = nI m ∧ 1 ≤ m ∧ m ≤ 8) ∧ kg_ok s ∧ (∃ fi, fi < 2 ^ 31 ∧ s 129 9 = nI fi) ∧ ¬ kg_thr (kg_t3 s cl e) (kg_cc s m) = 0
def kg_rn (s : kn_S) : kn_S := kn_up s 129 10 (kf_rnd (s 129 10))
def kg_ov (s : kn_S) (m cl : Nat) (x y w : Int32) : Int32 := 100 + x / 50 - y - kg_ret s (kg_cc s m) cl - kf_klim x y w
def kg_fe (s : kn_S) (m cl : Nat) (x y w : Int32) : Int32 := if s 129 11 = 1 then 0 else kf_min (x / 20 + y + (s 129 10 / 65536 - s 129 10 / 65536 / 40 * 40) + 12 * (if kg_ov s m cl x y w ≤ 0 then 0 else kg_ov s m cl x y w)) 20000
def kg_fp (s : kn_S) (m cl : Nat) (x y w : Int32) : Prop := kg_tp (kg_rn s) m cl (kg_fe (kg_rn s) m cl x y w)
def kg_fs (s : kn_S) (m cl : Nat) (x y w : Int32) : kn_S := kg_tr (kg_rn s) m cl (kg_fe (kg_rn s) m cl x y w)
def kg_fa (s : kn_S) (m cl : Nat) (x y w : Int32) : Int32 := kg_ta (kg_rn s) m cl (kg_fe (kg_rn s) m cl x y w)
theorem kg_rem {a m : Nat} (ha : a < 2 ^ 31) (hm : 1 ≤ m ∧ m ≤ 8) : nI a - nI a / nI m * nI m = nI (a % m) := by
  apply Int32.toInt_inj.mp
  have h1 : nI a / nI m = nI (a / m) := by
    apply Int32.toInt_inj.mp
    have h2 : a / m < 2 ^ 31 := by have := Nat.div_le_self a m; omega
    rw [Int32.toInt_div, nI_toInt ha, nI_toInt (by omega), nI_toInt h2]
    have h3 : ((a : Int).tdiv (m : Int)) = ((a / m : Nat) : Int) := by rw [Int.tdiv_eq_ediv_of_nonneg (by omega)]; rfl
    rw [h3]
    generalize a / m = d at h2
    exact Int.bmod_eq_of_le (by omega) (by omega)
  have h4 : nI (a / m) * nI m = nI (a / m * m) := (Int32.ofNat_mul _ _).symm
  have h5 : nI a = nI (a / m * m) + nI (a % m) := by rw [nI_add]; congr 1; exact (Nat.div_add_mod' a m).symm
  rw [h1, h4]
  generalize nI (a / m * m) = u at h5 ⊢
  rw [h5, Int32.add_comm, Int32.add_sub_cancel]
theorem kg_kn_lo (s : kn_S) {cc cl j : Nat} (e t : Int32) (h : j < 17) : kg_kn s cc cl e t 129 j = s 129 j := by
  dsimp only [kg_kn]
  rw [kg_logs_lo _ _ _ (by omega), kn_upk (by omega), kn_upk (by omega), kn_upk (by omega)]
theorem kg_kn_ok {s : kn_S} {cc cl : Nat} (e t : Int32) (hcc : cc < 8) (h : kg_ok s) : kg_ok (kg_kn s cc cl e t) := by
  dsimp only [kg_kn]
  refine kg_logs_ok _ _ (kg_ok_of h ?_)
  rw [kn_upk (by omega), kn_upk (by omega), kn_upk (by omega)]
theorem kg_re_o (s : kn_S) {cc j : Nat} (e : Int32) (hcc : cc < 8) (h : j < 17 ∨ 41 ≤ j) : kg_re s cc e 129 j = s 129 j := by
  dsimp only [kg_re]
  split
  · rw [kn_upk (by omega), kn_upk (by omega)]
  · rw [kn_upk (by omega), kn_upk (by omega), kn_upk (by omega), kn_upk (by omega)]

