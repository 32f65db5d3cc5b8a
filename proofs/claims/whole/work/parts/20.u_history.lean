-- the history, the firing text
theorem k_ldcf {X : kn_X} {M : kn_M} {pc : Nat} {lv : kn_L} {σ : kn_S} {τ : kn_T} {z : kn_Z} {c n : Nat} {Q : kn_Q} {i : Nat} {v : UInt32} {st : List Value} (hd : decode M.2.1 pc = .ok (.ldc i, 2)) (hc : Cond.constantFloat M.1.cls i v ∈ kn_ws) (k : kn_Go X M (pc + 2) lv (.float v :: st) σ τ z c n Q) : kn_Go X M pc lv st σ τ z c n Q := by
  intro D cs z0 ar p l e R s m args below meth cd n0 a0 mc ms QF Cx ad H locs ls cells slots hA
  exact lv_ldcf Cx.1.1.1 Cx.1.1.2.1 Cx.1.1.2.2.2.1 (Cx.1.1.2.2.2.2 _ hc) hd (k D cs z0 ar p l e R s m args below meth cd n0 a0 mc ms QF Cx ad H locs ls cells slots hA)
def kn_re (lv : kn_L) (ks : List Nat) : kn_L := ks.filterMap (fun k => (kn_get lv k).map (fun v => (k, v)))
theorem k_re {X : kn_X} {M : kn_M} {pc : Nat} {lv lv' : kn_L} {σ : kn_S} {τ : kn_T} {z : kn_Z} {c n : Nat} {Q : kn_Q} {st : List Value} (ks : List Nat) (h : kn_re lv ks = lv') (k : kn_Go X M pc lv' st σ τ z c n Q) : kn_Go X M pc lv st σ τ z c n Q := by
  refine k_sub (lv' := lv') (fun q hq => ?_) k
  rw [← h] at hq
  obtain ⟨j, -, hj⟩ := List.mem_filterMap.mp hq
  cases hg : kn_get lv j with
  | none => rw [hg] at hj; cases hj
  | some v => rw [hg] at hj; cases hj; exact kn_get_mem hg
def kn_isHi (z : kn_Z) (h : Nat) : Prop := (h < z.1 ∧ z.2 h = .inl (1, [some (.ref (h + 1)), none, none])) ∧ (h + 1 < z.1 ∧ z.2 (h + 1) = .inr (.inr [.ref (h + 2), .ref (h + 22), .ref (h + 42), .ref (h + 62)])) ∧ kn_isSt z (h + 2) ∧ kn_isSt z (h + 22) ∧ kn_isSt z (h + 42) ∧ kn_isSt z (h + 62)
theorem kn_isHi_st {z : kn_Z} {h r : Nat} (hh : kn_isHi z h) (hr : r < 4) : kn_isSt z (h + 2 + 20 * r) := by
  obtain ⟨-, -, h0, h1, h2, h3⟩ := hh
  have : r = 0 ∨ r = 1 ∨ r = 2 ∨ r = 3 := by omega
  rcases this with rfl | rfl | rfl | rfl
  · exact h0
  · exact h1
  · exact h2
  · exact h3
theorem kn_hi_at {h r : Nat} (hr : r < 4) : ([Value.ref (h + 2), Value.ref (h + 22), Value.ref (h + 42), Value.ref (h + 62)] : List Value).getD r .null = .ref (h + 2 + 20 * r) := by
  have : r = 0 ∨ r = 1 ∨ r = 2 ∨ r = 3 := by omega
  rcases this with rfl | rfl | rfl | rfl <;> rfl
theorem kn_rem {a : Int32} {x d : Nat} {y : Int32} (ha : a = nI x) (hx : x < 2 ^ 31) (h0 : 0 < d) (hd : d < 2 ^ 31) (hy : y = nI d) : a - a / y * y = nI (x % d) := by
  rw [ha, hy, pk_rem hx h0 hd]
theorem kn_hpl {a b : Int32} {o q : Nat} (ho : a = nI o) (hq : b = nI q) (h1 : o < 4) (h2 : q ≤ 4) : (a + b) - (a + b) / 4 * 4 = nI ((o + q) % 4) := kn_rem (by rw [ho, hq, nI_add]) (by omega) (by omega) (by omega) rfl
def kf_keepH (s : kn_S) (h b o k : Nat) : kn_S :=
  let s1 := kf_cpySt s (h + 2 + 20 * ((o + k) % 4)) b
  if 4 ≤ s1 h 2 then kn_up s1 h 1 (s1 h 1 + 1 - (s1 h 1 + 1) / 4 * 4) else kn_up s1 h 2 (s1 h 2 + 1)
def kf_restH (s : kn_S) (h b o k : Nat) : kn_S :=
  if s h 2 ≤ 0 then s else kf_cpySt (kn_up s h 2 (s h 2 - 1)) b (h + 2 + 20 * ((o + (k - 1)) % 4))
def kn_isTx (z : kn_Z) (t : Nat) : Prop := (t < z.1 ∧ z.2 t = .inl (0, [some (.ref (t + 1)), some (.ref (t + 3)), none, none])) ∧ kn_isRow z (t + 1) 120 ∧ kn_isRow z (t + 3) 60
def kf_tadd (s : kn_S) (t : Nat) (v : Int32) : kn_S := if 120 ≤ s t 2 then s else (let s1 := kf_put s (t + 2) 120 (s t 2) v; kn_up s1 t 2 (s1 t 2 + 1))
def kf_sep (s : kn_S) (t : Nat) : Int32 := if s t 3 - s t 3 / 3 * 3 = 2 then 59 else 32
def kf_numb (s : kn_S) (t : Nat) (f w : Int32) : Int32 := kf_at (s (t + 4)) 60 (3 * f + w)
/-- a byte is read: none where it cannot stand there -/
def kf_rsep (s : kn_S) (t : Nat) (ch dg nu : Int32) : Option (kn_S × Int32 × Int32) :=
  if dg ≤ 0 then none else if ch = kf_sep s t then (let s1 := kf_put s (t + 4) 60 (s t 3) nu; some (kn_up s1 t 3 (s1 t 3 + 1), 0, 0)) else none
def kf_rstep (s : kn_S) (t : Nat) (ch dg nu : Int32) : Option (kn_S × Int32 × Int32) :=
  if ch < 48 then kf_rsep s t ch dg nu else if 57 < ch then kf_rsep s t ch dg nu else if 5 ≤ dg then kf_rsep s t ch dg nu else some (s, dg + 1, 10 * nu + ch - 48)
def kf_rend (s : kn_S) (t : Nat) (dg : Int32) : Int32 := if dg = 0 then (if s t 3 - s t 3 / 3 * 3 = 0 then -1 else s t 2) else s t 2
def kf_rd (t : Nat) : Nat → Nat → kn_S → Int32 → Int32 → Int32 × kn_S
  | 0, _, s, dg, _ => (kf_rend s t dg, s)
  | r + 1, i, s, dg, nu => match kf_rstep s t (kf_at (s (t + 2)) 120 (nI i)) dg nu with
    | none => (nI i, s)
    | some (s1, dg1, nu1) => kf_rd t r (i + 1) s1 dg1 nu1
def kf_read (s : kn_S) (t len : Nat) : Int32 × kn_S := kf_rd t len 0 (kn_up s t 3 0) 0 0

set_option maxRecDepth 100000 in
set_option maxHeartbeats 4000000 in
theorem m_X2_size {X : kn_X} {σ : kn_S} {τ : kn_T} {z : kn_Z} {c n : Nat} {Q : kn_Q} {h : Nat} (hh : kn_isHi z h) (hQ : Q (.inl (some (.int (σ h 2)))) σ τ z) : kn_Ev X MX2_size [.ref h] σ τ z c n Q := by
  refine kn_entry (by decide +kernel) rfl (Nat.le_of_ble_eq_true rfl) ?_
  show kn_Go X MX2_size 0 [(0, .ref h)] [] _ _ _ _ _ _
  refine k_aload_n 0 dX2_size_0 rfl rfl ?_
  refine k_getfield dX2_size_1 hc_X2 hh.1.1 hh.1.2 2 (by decide) wF_X2_18 rfl ?_
  refine k_iret dX2_size_4 rfl (rfl) ?_
  exact hQ

set_option maxRecDepth 100000 in
set_option maxHeartbeats 4000000 in
theorem m_X2_placeOf {X : kn_X} {σ : kn_S} {τ : kn_T} {z : kn_Z} {c n : Nat} {Q : kn_Q} {h o q : Nat} {p : Int32} (hh : kn_isHi z h) (ho : σ h 1 = nI o) (ho4 : o < 4) (hp : p = nI q) (hq : q ≤ 4) (hQ : Q (.inl (some (.ref (h + 2 + 20 * ((o + q) % 4))))) σ τ z) : kn_Ev X MX2_placeOf [.ref h, .int p] σ τ z c n Q := by
  have hx := kn_hpl ho hp ho4 hq
  have hr4 : (o + q) % 4 < 4 := by omega
  refine kn_entry (by decide +kernel) rfl (Nat.le_of_ble_eq_true rfl) ?_
  show kn_Go X MX2_placeOf 0 [(0, .ref h), (1, .int p)] [] _ _ _ _ _ _
  refine k_aload_n 0 dX2_placeOf_0 rfl rfl ?_
  refine k_getfield dX2_placeOf_1 hc_X2 hh.1.1 hh.1.2 1 (by decide) wF_X2_30 rfl ?_
  refine k_iload_n 1 dX2_placeOf_4 rfl rfl ?_
  refine k_iadd dX2_placeOf_5 ?_
  refine k_iconst (4) dX2_placeOf_6 (by decide) ?_
  refine k_irem dX2_placeOf_7 (by decide) ?_
  refine k_istore_n 2 (lv' := [(2, _), (0, _), (1, _)]) dX2_placeOf_8 rfl (by decide) rfl ?_
  refine k_iload_n 2 dX2_placeOf_9 rfl rfl ?_
  refine k_iflt 31 dX2_placeOf_10 (by decide) (fun h10 => ?_) (fun h10 => ?_)
  · exact absurd h10 (by rw [hx]; exact nI_pos (by omega))
  · refine k_iload_n 2 dX2_placeOf_13 rfl rfl ?_
    refine k_aload_n 0 dX2_placeOf_14 rfl rfl ?_
    refine k_getfield dX2_placeOf_15 hc_X2 hh.1.1 hh.1.2 0 (by decide) wF_X2_11 rfl ?_
    refine k_alenR dX2_placeOf_18 hh.2.1.1 hh.2.1.2 ?_
    refine k_icmpge 31 dX2_placeOf_19 (by decide) (fun h19 => ?_) (fun h19 => ?_)
    · exact absurd h19 (by rw [hx]; exact nI_ge hr4 (by show (4 : Nat) < 2 ^ 31; decide))
    · refine k_aload_n 0 dX2_placeOf_22 rfl rfl ?_
      refine k_getfield dX2_placeOf_23 hc_X2 hh.1.1 hh.1.2 0 (by decide) wF_X2_11 rfl ?_
      refine k_iload_n 2 dX2_placeOf_26 rfl rfl ?_
      refine k_aaload (h + 2 + 20 * ((o + q) % 4)) dX2_placeOf_27 hh.2.1.1 hh.2.1.2 (by rw [hx]; exact vp_in_nI hr4 (by show (4 : Nat) < 2 ^ 31; decide)) (by rw [hx, nI_clamp (by omega)]; exact kn_hi_at hr4) ?_
      refine k_goto 32 dX2_placeOf_28 (by decide) ?_
      refine k_aret dX2_placeOf_32 rfl ?_
      exact hQ

set_option maxRecDepth 100000 in
set_option maxHeartbeats 4000000 in
theorem m_X2_keep {X : kn_X} {σ : kn_S} {τ : kn_T} {z : kn_Z} {c n : Nat} {Q : kn_Q} {h b o k : Nat} (hh : kn_isHi z h) (hs : kn_isSt z b) (hb1 : kn_01 (σ b 12)) (hb2 : kn_01 (σ b 16)) (ho : σ h 1 = nI o) (ho4 : o < 4) (hk : σ h 2 = nI k) (hk4 : k ≤ 4) (hQ : Q (.inl none) (kf_keepH σ h b o k) τ z) : kn_Ev X MX2_keep [.ref h, .ref b] σ τ z c n Q := by
  have hr4 : (o + k) % 4 < 4 := by omega
  refine kn_entry (by decide +kernel) rfl (Nat.le_of_ble_eq_true rfl) ?_
  show kn_Go X MX2_keep 0 [(0, .ref h), (1, .ref b)] [] _ _ _ _ _ _
  refine k_aload_n 0 dX2_keep_0 rfl rfl ?_
  refine k_aload_n 0 dX2_keep_1 rfl rfl ?_
  refine k_getfield dX2_keep_2 hc_X2 hh.1.1 hh.1.2 2 (by decide) wF_X2_18 rfl ?_
  refine k_invV (As := [_]) dX2_keep_5 mm_X2_placeOf wL_X2_22 ⟨by decide, by decide⟩ hh.1.1 hh.1.2 rfl rfl (Nat.le_of_ble_eq_true rfl) (Nat.zero_le _) (Nat.zero_le _) (m_X2_placeOf hh ho ho4 hk hk4 ⟨rfl, ?_⟩)
  refine k_astore_n 2 (lv' := [(2, _), (0, _), (1, _)]) dX2_keep_8 rfl (by decide) rfl ?_
  refine k_aload_n 2 dX2_keep_9 rfl rfl ?_
  refine k_ifnull dX2_keep_10 ?_
  refine k_aload_n 2 dX2_keep_13 rfl rfl ?_
  refine k_aload_n 1 dX2_keep_14 rfl rfl ?_
  refine k_invV (As := [_]) dX2_keep_15 mm_X5_copy wL_X2_26 ⟨by decide, by decide⟩ (kn_isHi_st hh hr4).1.1 (kn_isHi_st hh hr4).1.2 rfl rfl (Nat.le_of_ble_eq_true rfl) (Nat.zero_le _) (Nat.zero_le _) (m_X5_copy (kn_isHi_st hh hr4) hs hb1 hb2 ⟨rfl, ?_⟩)
  refine k_aload_n 0 dX2_keep_18 rfl rfl ?_
  refine k_getfield dX2_keep_19 hc_X2 hh.1.1 hh.1.2 2 (by decide) wF_X2_18 rfl ?_
  refine k_iconst (4) dX2_keep_22 (by decide) ?_
  refine k_icmpge 39 dX2_keep_23 (by decide) (fun h23 => ?_) (fun h23 => ?_)
  · refine k_aload_n 0 dX2_keep_39 rfl rfl ?_
    refine k_aload_n 0 dX2_keep_40 rfl rfl ?_
    refine k_getfield dX2_keep_41 hc_X2 hh.1.1 hh.1.2 1 (by decide) wF_X2_30 rfl ?_
    refine k_iconst (1) dX2_keep_44 (by decide) ?_
    refine k_iadd dX2_keep_45 ?_
    refine k_iconst (4) dX2_keep_46 (by decide) ?_
    refine k_irem dX2_keep_47 (by decide) ?_
    refine k_putfield dX2_keep_48 hc_X2 hh.1.1 hh.1.2 1 (by decide) wF_X2_30 rfl rfl (t9 := .int) (by decide +kernel) rfl rfl ?_
    refine k_vret dX2_keep_51 rfl ?_
    dsimp only [kf_keepH] at hQ
    rw [if_pos h23] at hQ
    exact hQ
  · refine k_aload_n 0 dX2_keep_26 rfl rfl ?_
    refine k_dup dX2_keep_27 rfl ?_
    refine k_getfield dX2_keep_28 hc_X2 hh.1.1 hh.1.2 2 (by decide) wF_X2_18 rfl ?_
    refine k_iconst (1) dX2_keep_31 (by decide) ?_
    refine k_iadd dX2_keep_32 ?_
    refine k_putfield dX2_keep_33 hc_X2 hh.1.1 hh.1.2 2 (by decide) wF_X2_18 rfl rfl (t9 := .int) (by decide +kernel) rfl rfl ?_
    refine k_goto 51 dX2_keep_36 (by decide) ?_
    refine k_vret dX2_keep_51 rfl ?_
    dsimp only [kf_keepH] at hQ
    rw [if_neg h23] at hQ
    exact hQ

set_option maxRecDepth 100000 in
set_option maxHeartbeats 4000000 in
theorem m_X2_restore {X : kn_X} {σ : kn_S} {τ : kn_T} {z : kn_Z} {c n : Nat} {Q : kn_Q} {h b o k : Nat} (hh : kn_isHi z h) (hs : kn_isSt z b) (hb : ∀ r, r < 4 → kn_01 (σ (h + 2 + 20 * r) 12) ∧ kn_01 (σ (h + 2 + 20 * r) 16)) (ho : σ h 1 = nI o) (ho4 : o < 4) (hk : σ h 2 = nI k) (hk4 : k ≤ 4) (hQ : Q (.inl none) (kf_restH σ h b o k) τ z) : kn_Ev X MX2_restore [.ref h, .ref b] σ τ z c n Q := by
  have hr4 : (o + (k - 1)) % 4 < 4 := by omega
  have hk1 : ¬ σ h 2 ≤ 0 → kn_up σ h 2 (σ h 2 - 1) h 2 = nI (k - 1) := by
    intro h9
    have h8 : 0 < k := by
      rcases Nat.eq_zero_or_pos k with h7 | h7
      · exact absurd (by rw [hk, h7]; decide) h9
      · exact h7
    simp only [kn_up, and_self, if_true]
    rw [hk]
    exact pk_sub (a := k) (b := 1) h8
  have hb12 : ∀ r, r < 4 → kn_01 (kn_up σ h 2 (σ h 2 - 1) (h + 2 + 20 * r) 12) ∧ kn_01 (kn_up σ h 2 (σ h 2 - 1) (h + 2 + 20 * r) 16) := by
    intro r hr
    simpa [kn_up] using hb r hr
  refine kn_entry (by decide +kernel) rfl (Nat.le_of_ble_eq_true rfl) ?_
  show kn_Go X MX2_restore 0 [(0, .ref h), (1, .ref b)] [] _ _ _ _ _ _
  refine k_aload_n 0 dX2_restore_0 rfl rfl ?_
  refine k_getfield dX2_restore_1 hc_X2 hh.1.1 hh.1.2 2 (by decide) wF_X2_18 rfl ?_
  refine k_ifle 35 dX2_restore_4 (by decide) (fun h4 => ?_) (fun h4 => ?_)
  · refine k_vret dX2_restore_35 rfl ?_
    dsimp only [kf_restH] at hQ
    rw [if_pos h4] at hQ
    exact hQ
  · refine k_aload_n 0 dX2_restore_7 rfl rfl ?_
    refine k_dup dX2_restore_8 rfl ?_
    refine k_getfield dX2_restore_9 hc_X2 hh.1.1 hh.1.2 2 (by decide) wF_X2_18 rfl ?_
    refine k_iconst (1) dX2_restore_12 (by decide) ?_
    refine k_isub dX2_restore_13 ?_
    refine k_putfield dX2_restore_14 hc_X2 hh.1.1 hh.1.2 2 (by decide) wF_X2_18 rfl rfl (t9 := .int) (by decide +kernel) rfl rfl ?_
    refine k_aload_n 0 dX2_restore_17 rfl rfl ?_
    refine k_aload_n 0 dX2_restore_18 rfl rfl ?_
    refine k_getfield dX2_restore_19 hc_X2 hh.1.1 hh.1.2 2 (by decide) wF_X2_18 rfl ?_
    refine k_invV (As := [_]) dX2_restore_22 mm_X2_placeOf wL_X2_22 ⟨by decide, by decide⟩ hh.1.1 hh.1.2 rfl rfl (Nat.le_of_ble_eq_true rfl) (Nat.zero_le _) (Nat.zero_le _) (m_X2_placeOf hh (by simpa [kn_up] using ho) ho4 (hk1 h4) (by omega) ⟨rfl, ?_⟩)
    refine k_astore_n 2 (lv' := [(2, _), (0, _), (1, _)]) dX2_restore_25 rfl (by decide) rfl ?_
    refine k_aload_n 2 dX2_restore_26 rfl rfl ?_
    refine k_ifnull dX2_restore_27 ?_
    refine k_aload_n 1 dX2_restore_30 rfl rfl ?_
    refine k_aload_n 2 dX2_restore_31 rfl rfl ?_
    refine k_invV (As := [_]) dX2_restore_32 mm_X5_copy wL_X2_26 ⟨by decide, by decide⟩ hs.1.1 hs.1.2 rfl rfl (Nat.le_of_ble_eq_true rfl) (Nat.zero_le _) (Nat.zero_le _) (m_X5_copy hs (kn_isHi_st hh hr4) (hb12 _ hr4).1 (hb12 _ hr4).2 ⟨rfl, ?_⟩)
    refine k_vret dX2_restore_35 rfl ?_
    dsimp only [kf_restH] at hQ
    rw [if_neg h4] at hQ
    exact hQ

set_option maxRecDepth 100000 in
set_option maxHeartbeats 4000000 in
theorem m_X1_size {X : kn_X} {σ : kn_S} {τ : kn_T} {z : kn_Z} {c n : Nat} {Q : kn_Q} {t : Nat} (ht : kn_isTx z t) (hQ : Q (.inl (some (.int (σ t 2)))) σ τ z) : kn_Ev X MX1_size [.ref t] σ τ z c n Q := by
  refine kn_entry (by decide +kernel) rfl (Nat.le_of_ble_eq_true rfl) ?_
  show kn_Go X MX1_size 0 [(0, .ref t)] [] _ _ _ _ _ _
  refine k_aload_n 0 dX1_size_0 rfl rfl ?_
  refine k_getfield dX1_size_1 hc_X1 ht.1.1 ht.1.2 2 (by decide) wF_X1_23 rfl ?_
  refine k_iret dX1_size_4 rfl (rfl) ?_
  exact hQ

set_option maxRecDepth 100000 in
set_option maxHeartbeats 4000000 in
theorem m_X1_empty {X : kn_X} {σ : kn_S} {τ : kn_T} {z : kn_Z} {c n : Nat} {Q : kn_Q} {t : Nat} (ht : kn_isTx z t) (hQ : Q (.inl none) (kn_up σ t 2 0) τ z) : kn_Ev X MX1_empty [.ref t] σ τ z c n Q := by
  refine kn_entry (by decide +kernel) rfl (Nat.le_of_ble_eq_true rfl) ?_
  show kn_Go X MX1_empty 0 [(0, .ref t)] [] _ _ _ _ _ _
  refine k_aload_n 0 dX1_empty_0 rfl rfl ?_
  refine k_iconst (0) dX1_empty_1 (by decide) ?_
  refine k_putfield dX1_empty_2 hc_X1 ht.1.1 ht.1.2 2 (by decide) wF_X1_23 rfl rfl (t9 := .int) (by decide +kernel) rfl rfl ?_
  refine k_vret dX1_empty_5 rfl ?_
  exact hQ

set_option maxRecDepth 100000 in
set_option maxHeartbeats 4000000 in
theorem m_X1_add {X : kn_X} {σ : kn_S} {τ : kn_T} {z : kn_Z} {c n : Nat} {Q : kn_Q} {t : Nat} {v : Int32} (ht : kn_isTx z t) (hQ : Q (.inl none) (kf_tadd σ t v) τ z) : kn_Ev X MX1_add [.ref t, .int v] σ τ z c n Q := by
  refine kn_entry (by decide +kernel) rfl (Nat.le_of_ble_eq_true rfl) ?_
  show kn_Go X MX1_add 0 [(0, .ref t), (1, .int v)] [] _ _ _ _ _ _
  refine k_aload_n 0 dX1_add_0 rfl rfl ?_
  refine k_getfield dX1_add_1 hc_X1 ht.1.1 ht.1.2 2 (by decide) wF_X1_23 rfl ?_
  refine k_bipush (120) dX1_add_4 (by decide) ?_
  refine k_icmpge 31 dX1_add_6 (by decide) (fun h6 => ?_) (fun h6 => ?_)
  · refine k_vret dX1_add_31 rfl ?_
    dsimp only [kf_tadd] at hQ
    rw [if_pos h6] at hQ
    exact hQ
  · refine k_aload_n 0 dX1_add_9 rfl rfl ?_
    refine k_getfield dX1_add_10 hc_X1 ht.1.1 ht.1.2 0 (by decide) wF_X1_14 rfl ?_
    refine k_aload_n 0 dX1_add_13 rfl rfl ?_
    refine k_getfield dX1_add_14 hc_X1 ht.1.1 ht.1.2 2 (by decide) wF_X1_23 rfl ?_
    refine k_iload_n 1 dX1_add_17 rfl rfl ?_
    refine k_invV (As := [_, _]) dX1_add_18 mm_X4_put wL_X1_27 ⟨by decide, by decide⟩ ht.2.1.1.1 ht.2.1.1.2 rfl rfl (Nat.le_of_ble_eq_true rfl) (Nat.zero_le _) (Nat.zero_le _) (m_X4_put ht.2.1 (Nat.le_of_ble_eq_true rfl) ⟨rfl, ?_⟩)
    refine k_aload_n 0 dX1_add_21 rfl rfl ?_
    refine k_dup dX1_add_22 rfl ?_
    refine k_getfield dX1_add_23 hc_X1 ht.1.1 ht.1.2 2 (by decide) wF_X1_23 rfl ?_
    refine k_iconst (1) dX1_add_26 (by decide) ?_
    refine k_iadd dX1_add_27 ?_
    refine k_putfield dX1_add_28 hc_X1 ht.1.1 ht.1.2 2 (by decide) wF_X1_23 rfl rfl (t9 := .int) (by decide +kernel) rfl rfl ?_
    refine k_vret dX1_add_31 rfl ?_
    dsimp only [kf_tadd] at hQ
    rw [if_neg h6] at hQ
    exact hQ

set_option maxRecDepth 100000 in
set_option maxHeartbeats 4000000 in
theorem m_X1_firingsRead {X : kn_X} {σ : kn_S} {τ : kn_T} {z : kn_Z} {c n : Nat} {Q : kn_Q} {t : Nat} (ht : kn_isTx z t) (hQ : Q (.inl (some (.int (σ t 3 / 3)))) σ τ z) : kn_Ev X MX1_firingsRead [.ref t] σ τ z c n Q := by
  refine kn_entry (by decide +kernel) rfl (Nat.le_of_ble_eq_true rfl) ?_
  show kn_Go X MX1_firingsRead 0 [(0, .ref t)] [] _ _ _ _ _ _
  refine k_aload_n 0 dX1_firingsRead_0 rfl rfl ?_
  refine k_getfield dX1_firingsRead_1 hc_X1 ht.1.1 ht.1.2 3 (by decide) wF_X1_31 rfl ?_
  refine k_iconst (3) dX1_firingsRead_4 (by decide) ?_
  refine k_idiv dX1_firingsRead_5 (by decide) ?_
  refine k_iret dX1_firingsRead_6 rfl (rfl) ?_
  exact hQ

set_option maxRecDepth 100000 in
set_option maxHeartbeats 4000000 in
theorem m_X1_number {X : kn_X} {σ : kn_S} {τ : kn_T} {z : kn_Z} {c n : Nat} {Q : kn_Q} {t : Nat} {f w : Int32} (ht : kn_isTx z t) (hQ : Q (.inl (some (.int (kf_numb σ t f w)))) σ τ z) : kn_Ev X MX1_number [.ref t, .int f, .int w] σ τ z c n Q := by
  refine kn_entry (by decide +kernel) rfl (Nat.le_of_ble_eq_true rfl) ?_
  show kn_Go X MX1_number 0 [(0, .ref t), (1, .int f), (2, .int w)] [] _ _ _ _ _ _
  refine k_aload_n 0 dX1_number_0 rfl rfl ?_
  refine k_getfield dX1_number_1 hc_X1 ht.1.1 ht.1.2 1 (by decide) wF_X1_20 rfl ?_
  refine k_iconst (3) dX1_number_4 (by decide) ?_
  refine k_iload_n 1 dX1_number_5 rfl rfl ?_
  refine k_imul dX1_number_6 ?_
  refine k_iload_n 2 dX1_number_7 rfl rfl ?_
  refine k_iadd dX1_number_8 ?_
  refine k_invV (As := [_]) dX1_number_9 mm_X4_at wL_X1_34 ⟨by decide, by decide⟩ ht.2.2.1.1 ht.2.2.1.2 rfl rfl (Nat.le_of_ble_eq_true rfl) (Nat.zero_le _) (Nat.zero_le _) (m_X4_at ht.2.2 (Nat.le_of_ble_eq_true rfl) ⟨rfl, ?_⟩)
  refine k_iret dX1_number_12 rfl (rfl) ?_
  exact hQ

set_option maxRecDepth 100000 in
set_option maxHeartbeats 4000000 in
theorem m_X1_separator {X : kn_X} {σ : kn_S} {τ : kn_T} {z : kn_Z} {c n : Nat} {Q : kn_Q} {t : Nat} (ht : kn_isTx z t) (hQ : Q (.inl (some (.int (kf_sep σ t)))) σ τ z) : kn_Ev X MX1_separator [.ref t] σ τ z c n Q := by
  refine kn_entry (by decide +kernel) rfl (Nat.le_of_ble_eq_true rfl) ?_
  show kn_Go X MX1_separator 0 [(0, .ref t)] [] _ _ _ _ _ _
  refine k_aload_n 0 dX1_separator_0 rfl rfl ?_
  refine k_getfield dX1_separator_1 hc_X1 ht.1.1 ht.1.2 3 (by decide) wF_X1_31 rfl ?_
  refine k_iconst (3) dX1_separator_4 (by decide) ?_
  refine k_irem dX1_separator_5 (by decide) ?_
  refine k_iconst (2) dX1_separator_6 (by decide) ?_
  refine k_icmpne 14 dX1_separator_7 (by decide) (fun h7 => ?_) (fun h7 => ?_)
  · refine k_iconst (0) dX1_separator_14 (by decide) ?_
    refine k_istore_n 1 (lv' := [(1, _), (0, _)]) dX1_separator_15 rfl (by decide) rfl ?_
    refine k_iload_n 1 dX1_separator_16 rfl rfl ?_
    refine k_ifeq 25 dX1_separator_17 (by decide) (fun h17 => ?_) (fun h17 => ?_)
    · refine k_bipush (32) dX1_separator_25 (by decide) ?_
      refine k_iret dX1_separator_27 rfl (rfl) ?_
      dsimp only [kf_sep] at hQ
      rw [if_neg h7] at hQ
      exact hQ
    · exact absurd rfl h17
  · refine k_iconst (1) dX1_separator_10 (by decide) ?_
    refine k_goto 15 dX1_separator_11 (by decide) ?_
    refine k_istore_n 1 (lv' := [(1, _), (0, _)]) dX1_separator_15 rfl (by decide) rfl ?_
    refine k_iload_n 1 dX1_separator_16 rfl rfl ?_
    refine k_ifeq 25 dX1_separator_17 (by decide) (fun h17 => ?_) (fun h17 => ?_)
    · exact absurd h17 (by decide)
    · refine k_bipush (59) dX1_separator_20 (by decide) ?_
      refine k_goto 27 dX1_separator_22 (by decide) ?_
      refine k_iret dX1_separator_27 rfl (rfl) ?_
      dsimp only [kf_sep] at hQ
      rw [if_pos h7] at hQ
      exact hQ

set_option maxRecDepth 100000 in
set_option maxHeartbeats 4000000 in
theorem m_X1_read {X : kn_X} {σ : kn_S} {τ : kn_T} {z : kn_Z} {c n : Nat} {Q : kn_Q} {t len : Nat} (ht : kn_isTx z t) (hlen : σ t 2 = nI len) (hl120 : len ≤ 120) (hQ : Q (.inl (some (.int ((kf_read σ t len).1)))) (kf_read σ t len).2 τ z) : kn_Ev X MX1_read [.ref t] σ τ z c n Q := by
  refine kn_entry (by decide +kernel) rfl (Nat.le_of_ble_eq_true rfl) ?_
  show kn_Go X MX1_read 0 [(0, .ref t)] [] _ _ _ _ _ _
  have lp11 : ∀ r9 : Nat, ∀ (i : Nat) (s9 : kn_S) (dg nu : Int32), s9 t 2 = nI len → i + r9 = len → Q (.inl (some (.int (kf_rd t r9 i s9 dg nu).1))) (kf_rd t r9 i s9 dg nu).2 τ z → kn_Go X MX1_read 11 [(3, .int (nI i)), (2, .int nu), (1, .int dg), (0, .ref t)] [] s9 τ z c n Q := by
    intro r9
    induction r9 with
    | zero =>
      intro i s9 dg nu hl2 hi hQ
      refine k_iload_n 3 dX1_read_11 rfl rfl ?_
      refine k_aload_n 0 dX1_read_12 rfl rfl ?_
      refine k_getfield dX1_read_13 hc_X1 ht.1.1 ht.1.2 2 (by decide) wF_X1_23 rfl ?_
      refine k_icmpge 115 dX1_read_16 (by decide) (fun h16 => ?_) (fun h16 => ?_)
      · refine k_iload_n 1 dX1_read_115 rfl rfl ?_
        refine k_ifne 132 dX1_read_116 (by decide) (fun h116 => ?_) (fun h116 => ?_)
        · refine k_iconst (0) dX1_read_132 (by decide) ?_
          refine k_istore_n 3 (lv' := [(3, _), (2, _), (1, _), (0, _)]) dX1_read_133 rfl (by decide) rfl ?_
          refine k_iload_n 3 dX1_read_134 rfl rfl ?_
          refine k_ifeq 142 dX1_read_135 (by decide) (fun h135 => ?_) (fun h135 => ?_)
          · refine k_aload_n 0 dX1_read_142 rfl rfl ?_
            refine k_getfield dX1_read_143 hc_X1 ht.1.1 ht.1.2 2 (by decide) wF_X1_23 rfl ?_
            refine k_iret dX1_read_146 rfl (rfl) ?_
            dsimp only [kf_rd, kf_rend] at hQ
            rw [if_neg h116] at hQ
            exact hQ
          · exact absurd rfl h135
        · refine k_aload_n 0 dX1_read_119 rfl rfl ?_
          refine k_getfield dX1_read_120 hc_X1 ht.1.1 ht.1.2 3 (by decide) wF_X1_31 rfl ?_
          refine k_iconst (3) dX1_read_123 (by decide) ?_
          refine k_irem dX1_read_124 (by decide) ?_
          refine k_ifne 132 dX1_read_125 (by decide) (fun h125 => ?_) (fun h125 => ?_)
          · refine k_iconst (0) dX1_read_132 (by decide) ?_
            refine k_istore_n 3 (lv' := [(3, _), (2, _), (1, _), (0, _)]) dX1_read_133 rfl (by decide) rfl ?_
            refine k_iload_n 3 dX1_read_134 rfl rfl ?_
            refine k_ifeq 142 dX1_read_135 (by decide) (fun h135 => ?_) (fun h135 => ?_)
            · refine k_aload_n 0 dX1_read_142 rfl rfl ?_
              refine k_getfield dX1_read_143 hc_X1 ht.1.1 ht.1.2 2 (by decide) wF_X1_23 rfl ?_
              refine k_iret dX1_read_146 rfl (rfl) ?_
              dsimp only [kf_rd, kf_rend] at hQ
              rw [if_pos h116, if_neg h125] at hQ
              exact hQ
            · exact absurd rfl h135
          · refine k_iconst (1) dX1_read_128 (by decide) ?_
            refine k_goto 133 dX1_read_129 (by decide) ?_
            refine k_istore_n 3 (lv' := [(3, _), (2, _), (1, _), (0, _)]) dX1_read_133 rfl (by decide) rfl ?_
            refine k_iload_n 3 dX1_read_134 rfl rfl ?_
            refine k_ifeq 142 dX1_read_135 (by decide) (fun h135 => ?_) (fun h135 => ?_)
            · exact absurd h135 (by decide)
            · refine k_iconst (-1) dX1_read_138 (by decide) ?_
              refine k_goto 146 dX1_read_139 (by decide) ?_
              refine k_iret dX1_read_146 rfl (rfl) ?_
              dsimp only [kf_rd, kf_rend] at hQ
              rw [if_pos h116, if_pos h125] at hQ
              exact hQ
      · exact absurd (by rw [hl2]; exact nI_le (by omega) (by omega)) h16
    | succ r9 ih =>
      intro i s9 dg nu hl2 hi hQ
      refine k_iload_n 3 dX1_read_11 rfl rfl ?_
      refine k_aload_n 0 dX1_read_12 rfl rfl ?_
      refine k_getfield dX1_read_13 hc_X1 ht.1.1 ht.1.2 2 (by decide) wF_X1_23 rfl ?_
      refine k_icmpge 115 dX1_read_16 (by decide) (fun h16 => ?_) (fun h16 => ?_)
      · exact absurd (hl2 ▸ h16) (nI_ge (by omega) (by omega))
      · refine k_aload_n 0 dX1_read_19 rfl rfl ?_
        refine k_getfield dX1_read_20 hc_X1 ht.1.1 ht.1.2 0 (by decide) wF_X1_14 rfl ?_
        refine k_iload_n 3 dX1_read_23 rfl rfl ?_
        refine k_invV (As := [_]) dX1_read_24 mm_X4_at wL_X1_34 ⟨by decide, by decide⟩ ht.2.1.1.1 ht.2.1.1.2 rfl rfl (Nat.le_of_ble_eq_true rfl) (Nat.zero_le _) (Nat.zero_le _) (m_X4_at ht.2.1 (Nat.le_of_ble_eq_true rfl) ⟨rfl, ?_⟩)
        refine k_istore (lv' := [(4, _), (3, _), (2, _), (1, _), (0, _)]) dX1_read_27 (by decide) rfl ?_
        refine k_iload dX1_read_29 rfl ?_
        refine k_bipush (48) dX1_read_31 (by decide) ?_
        refine k_icmplt 65 dX1_read_33 (by decide) (fun h33 => ?_) (fun h33 => ?_)
        · refine k_iload_n 1 dX1_read_65 rfl rfl ?_
          refine k_ifle 107 dX1_read_66 (by decide) (fun h66 => ?_) (fun h66 => ?_)
          · refine k_iload_n 3 dX1_read_107 rfl rfl ?_
            refine k_iret dX1_read_108 rfl (rfl) ?_
            dsimp only [kf_rd, kf_rstep, kf_rsep] at hQ
            rw [if_pos h33, if_pos h66] at hQ
            exact hQ
          · refine k_iload dX1_read_69 rfl ?_
            refine k_aload_n 0 dX1_read_71 rfl rfl ?_
            refine k_invV (As := []) dX1_read_72 mm_X1_separator wL_X1_38 ⟨by decide, by decide⟩ ht.1.1 ht.1.2 rfl rfl (Nat.le_of_ble_eq_true rfl) (Nat.zero_le _) (Nat.zero_le _) (m_X1_separator ht ⟨rfl, ?_⟩)
            refine k_icmpne 107 dX1_read_75 (by decide) (fun h75 => ?_) (fun h75 => ?_)
            · refine k_iload_n 3 dX1_read_107 rfl rfl ?_
              refine k_iret dX1_read_108 rfl (rfl) ?_
              dsimp only [kf_rd, kf_rstep, kf_rsep] at hQ
              rw [if_pos h33, if_neg h66, if_neg h75] at hQ
              exact hQ
            · refine k_aload_n 0 dX1_read_78 rfl rfl ?_
              refine k_getfield dX1_read_79 hc_X1 ht.1.1 ht.1.2 1 (by decide) wF_X1_20 rfl ?_
              refine k_aload_n 0 dX1_read_82 rfl rfl ?_
              refine k_getfield dX1_read_83 hc_X1 ht.1.1 ht.1.2 3 (by decide) wF_X1_31 rfl ?_
              refine k_iload_n 2 dX1_read_86 rfl rfl ?_
              refine k_invV (As := [_, _]) dX1_read_87 mm_X4_put wL_X1_27 ⟨by decide, by decide⟩ ht.2.2.1.1 ht.2.2.1.2 rfl rfl (Nat.le_of_ble_eq_true rfl) (Nat.zero_le _) (Nat.zero_le _) (m_X4_put ht.2.2 (Nat.le_of_ble_eq_true rfl) ⟨rfl, ?_⟩)
              refine k_aload_n 0 dX1_read_90 rfl rfl ?_
              refine k_dup dX1_read_91 rfl ?_
              refine k_getfield dX1_read_92 hc_X1 ht.1.1 ht.1.2 3 (by decide) wF_X1_31 rfl ?_
              refine k_iconst (1) dX1_read_95 (by decide) ?_
              refine k_iadd dX1_read_96 ?_
              refine k_putfield dX1_read_97 hc_X1 ht.1.1 ht.1.2 3 (by decide) wF_X1_31 rfl rfl (t9 := .int) (by decide +kernel) rfl rfl ?_
              refine k_iconst (0) dX1_read_100 (by decide) ?_
              refine k_istore_n 2 (lv' := [(2, _), (4, _), (3, _), (1, _), (0, _)]) dX1_read_101 rfl (by decide) rfl ?_
              refine k_iconst (0) dX1_read_102 (by decide) ?_
              refine k_istore_n 1 (lv' := [(1, _), (2, _), (4, _), (3, _), (0, _)]) dX1_read_103 rfl (by decide) rfl ?_
              refine k_goto 109 dX1_read_104 (by decide) ?_
              refine k_iinc (nI (i + 1)) (lv' := [(3, _), (1, _), (2, _), (4, _), (0, _)]) dX1_read_109 rfl (kn_inc i) (by decide) rfl ?_
              refine k_goto 11 dX1_read_112 (by decide) ?_
              refine k_re [3, 2, 1, 0] (lv' := [(3, _), (2, _), (1, _), (0, _)]) rfl ?_
              dsimp only [kf_rd, kf_rstep, kf_rsep] at hQ
              rw [if_pos h33, if_neg h66, if_pos h75] at hQ
              exact ih (i + 1) _ _ _ (by first | exact hl2 | (simp only [kn_up]; rw [if_neg (by simp), kf_put_ne _ _ _ _ (by omega)]; exact hl2)) (by omega) hQ
        · refine k_iload dX1_read_36 rfl ?_
          refine k_bipush (57) dX1_read_38 (by decide) ?_
          refine k_icmpgt 65 dX1_read_40 (by decide) (fun h40 => ?_) (fun h40 => ?_)
          · refine k_iload_n 1 dX1_read_65 rfl rfl ?_
            refine k_ifle 107 dX1_read_66 (by decide) (fun h66 => ?_) (fun h66 => ?_)
            · refine k_iload_n 3 dX1_read_107 rfl rfl ?_
              refine k_iret dX1_read_108 rfl (rfl) ?_
              dsimp only [kf_rd, kf_rstep, kf_rsep] at hQ
              rw [if_neg h33, if_pos h40, if_pos h66] at hQ
              exact hQ
            · refine k_iload dX1_read_69 rfl ?_
              refine k_aload_n 0 dX1_read_71 rfl rfl ?_
              refine k_invV (As := []) dX1_read_72 mm_X1_separator wL_X1_38 ⟨by decide, by decide⟩ ht.1.1 ht.1.2 rfl rfl (Nat.le_of_ble_eq_true rfl) (Nat.zero_le _) (Nat.zero_le _) (m_X1_separator ht ⟨rfl, ?_⟩)
              refine k_icmpne 107 dX1_read_75 (by decide) (fun h75 => ?_) (fun h75 => ?_)
              · refine k_iload_n 3 dX1_read_107 rfl rfl ?_
                refine k_iret dX1_read_108 rfl (rfl) ?_
                dsimp only [kf_rd, kf_rstep, kf_rsep] at hQ
                rw [if_neg h33, if_pos h40, if_neg h66, if_neg h75] at hQ
                exact hQ
              · refine k_aload_n 0 dX1_read_78 rfl rfl ?_
                refine k_getfield dX1_read_79 hc_X1 ht.1.1 ht.1.2 1 (by decide) wF_X1_20 rfl ?_
                refine k_aload_n 0 dX1_read_82 rfl rfl ?_
                refine k_getfield dX1_read_83 hc_X1 ht.1.1 ht.1.2 3 (by decide) wF_X1_31 rfl ?_
                refine k_iload_n 2 dX1_read_86 rfl rfl ?_
                refine k_invV (As := [_, _]) dX1_read_87 mm_X4_put wL_X1_27 ⟨by decide, by decide⟩ ht.2.2.1.1 ht.2.2.1.2 rfl rfl (Nat.le_of_ble_eq_true rfl) (Nat.zero_le _) (Nat.zero_le _) (m_X4_put ht.2.2 (Nat.le_of_ble_eq_true rfl) ⟨rfl, ?_⟩)
                refine k_aload_n 0 dX1_read_90 rfl rfl ?_
                refine k_dup dX1_read_91 rfl ?_
                refine k_getfield dX1_read_92 hc_X1 ht.1.1 ht.1.2 3 (by decide) wF_X1_31 rfl ?_
                refine k_iconst (1) dX1_read_95 (by decide) ?_
                refine k_iadd dX1_read_96 ?_
                refine k_putfield dX1_read_97 hc_X1 ht.1.1 ht.1.2 3 (by decide) wF_X1_31 rfl rfl (t9 := .int) (by decide +kernel) rfl rfl ?_
                refine k_iconst (0) dX1_read_100 (by decide) ?_
                refine k_istore_n 2 (lv' := [(2, _), (4, _), (3, _), (1, _), (0, _)]) dX1_read_101 rfl (by decide) rfl ?_
                refine k_iconst (0) dX1_read_102 (by decide) ?_
                refine k_istore_n 1 (lv' := [(1, _), (2, _), (4, _), (3, _), (0, _)]) dX1_read_103 rfl (by decide) rfl ?_
                refine k_goto 109 dX1_read_104 (by decide) ?_
                refine k_iinc (nI (i + 1)) (lv' := [(3, _), (1, _), (2, _), (4, _), (0, _)]) dX1_read_109 rfl (kn_inc i) (by decide) rfl ?_
                refine k_goto 11 dX1_read_112 (by decide) ?_
                refine k_re [3, 2, 1, 0] (lv' := [(3, _), (2, _), (1, _), (0, _)]) rfl ?_
                dsimp only [kf_rd, kf_rstep, kf_rsep] at hQ
                rw [if_neg h33, if_pos h40, if_neg h66, if_pos h75] at hQ
                exact ih (i + 1) _ _ _ (by first | exact hl2 | (simp only [kn_up]; rw [if_neg (by simp), kf_put_ne _ _ _ _ (by omega)]; exact hl2)) (by omega) hQ
          · refine k_iload_n 1 dX1_read_43 rfl rfl ?_
            refine k_iconst (5) dX1_read_44 (by decide) ?_
            refine k_icmpge 65 dX1_read_45 (by decide) (fun h45 => ?_) (fun h45 => ?_)
            · refine k_iload_n 1 dX1_read_65 rfl rfl ?_
              refine k_ifle 107 dX1_read_66 (by decide) (fun h66 => ?_) (fun h66 => ?_)
              · refine k_iload_n 3 dX1_read_107 rfl rfl ?_
                refine k_iret dX1_read_108 rfl (rfl) ?_
                dsimp only [kf_rd, kf_rstep, kf_rsep] at hQ
                rw [if_neg h33, if_neg h40, if_pos h45, if_pos h66] at hQ
                exact hQ
              · refine k_iload dX1_read_69 rfl ?_
                refine k_aload_n 0 dX1_read_71 rfl rfl ?_
                refine k_invV (As := []) dX1_read_72 mm_X1_separator wL_X1_38 ⟨by decide, by decide⟩ ht.1.1 ht.1.2 rfl rfl (Nat.le_of_ble_eq_true rfl) (Nat.zero_le _) (Nat.zero_le _) (m_X1_separator ht ⟨rfl, ?_⟩)
                refine k_icmpne 107 dX1_read_75 (by decide) (fun h75 => ?_) (fun h75 => ?_)
                · refine k_iload_n 3 dX1_read_107 rfl rfl ?_
                  refine k_iret dX1_read_108 rfl (rfl) ?_
                  dsimp only [kf_rd, kf_rstep, kf_rsep] at hQ
                  rw [if_neg h33, if_neg h40, if_pos h45, if_neg h66, if_neg h75] at hQ
                  exact hQ
                · refine k_aload_n 0 dX1_read_78 rfl rfl ?_
                  refine k_getfield dX1_read_79 hc_X1 ht.1.1 ht.1.2 1 (by decide) wF_X1_20 rfl ?_
                  refine k_aload_n 0 dX1_read_82 rfl rfl ?_
                  refine k_getfield dX1_read_83 hc_X1 ht.1.1 ht.1.2 3 (by decide) wF_X1_31 rfl ?_
                  refine k_iload_n 2 dX1_read_86 rfl rfl ?_
                  refine k_invV (As := [_, _]) dX1_read_87 mm_X4_put wL_X1_27 ⟨by decide, by decide⟩ ht.2.2.1.1 ht.2.2.1.2 rfl rfl (Nat.le_of_ble_eq_true rfl) (Nat.zero_le _) (Nat.zero_le _) (m_X4_put ht.2.2 (Nat.le_of_ble_eq_true rfl) ⟨rfl, ?_⟩)
                  refine k_aload_n 0 dX1_read_90 rfl rfl ?_
                  refine k_dup dX1_read_91 rfl ?_
                  refine k_getfield dX1_read_92 hc_X1 ht.1.1 ht.1.2 3 (by decide) wF_X1_31 rfl ?_
                  refine k_iconst (1) dX1_read_95 (by decide) ?_
                  refine k_iadd dX1_read_96 ?_
                  refine k_putfield dX1_read_97 hc_X1 ht.1.1 ht.1.2 3 (by decide) wF_X1_31 rfl rfl (t9 := .int) (by decide +kernel) rfl rfl ?_
                  refine k_iconst (0) dX1_read_100 (by decide) ?_
                  refine k_istore_n 2 (lv' := [(2, _), (4, _), (3, _), (1, _), (0, _)]) dX1_read_101 rfl (by decide) rfl ?_
                  refine k_iconst (0) dX1_read_102 (by decide) ?_
                  refine k_istore_n 1 (lv' := [(1, _), (2, _), (4, _), (3, _), (0, _)]) dX1_read_103 rfl (by decide) rfl ?_
                  refine k_goto 109 dX1_read_104 (by decide) ?_
                  refine k_iinc (nI (i + 1)) (lv' := [(3, _), (1, _), (2, _), (4, _), (0, _)]) dX1_read_109 rfl (kn_inc i) (by decide) rfl ?_
                  refine k_goto 11 dX1_read_112 (by decide) ?_
                  refine k_re [3, 2, 1, 0] (lv' := [(3, _), (2, _), (1, _), (0, _)]) rfl ?_
                  dsimp only [kf_rd, kf_rstep, kf_rsep] at hQ
                  rw [if_neg h33, if_neg h40, if_pos h45, if_neg h66, if_pos h75] at hQ
                  exact ih (i + 1) _ _ _ (by first | exact hl2 | (simp only [kn_up]; rw [if_neg (by simp), kf_put_ne _ _ _ _ (by omega)]; exact hl2)) (by omega) hQ
            · refine k_bipush (10) dX1_read_48 (by decide) ?_
              refine k_iload_n 2 dX1_read_50 rfl rfl ?_
              refine k_imul dX1_read_51 ?_
              refine k_iload dX1_read_52 rfl ?_
              refine k_iadd dX1_read_54 ?_
              refine k_bipush (48) dX1_read_55 (by decide) ?_
              refine k_isub dX1_read_57 ?_
              refine k_istore_n 2 (lv' := [(2, _), (4, _), (3, _), (1, _), (0, _)]) dX1_read_58 rfl (by decide) rfl ?_
              refine k_iinc (dg + 1) (lv' := [(1, _), (2, _), (4, _), (3, _), (0, _)]) dX1_read_59 rfl (rfl) (by decide) rfl ?_
              refine k_goto 109 dX1_read_62 (by decide) ?_
              refine k_iinc (nI (i + 1)) (lv' := [(3, _), (1, _), (2, _), (4, _), (0, _)]) dX1_read_109 rfl (kn_inc i) (by decide) rfl ?_
              refine k_goto 11 dX1_read_112 (by decide) ?_
              refine k_re [3, 2, 1, 0] (lv' := [(3, _), (2, _), (1, _), (0, _)]) rfl ?_
              dsimp only [kf_rd, kf_rstep, kf_rsep] at hQ
              rw [if_neg h33, if_neg h40, if_neg h45] at hQ
              exact ih (i + 1) _ _ _ (by first | exact hl2 | (simp only [kn_up]; rw [if_neg (by simp), kf_put_ne _ _ _ _ (by omega)]; exact hl2)) (by omega) hQ
  refine k_aload_n 0 dX1_read_0 rfl rfl ?_
  refine k_iconst (0) dX1_read_1 (by decide) ?_
  refine k_putfield dX1_read_2 hc_X1 ht.1.1 ht.1.2 3 (by decide) wF_X1_31 rfl rfl (t9 := .int) (by decide +kernel) rfl rfl ?_
  refine k_iconst (0) dX1_read_5 (by decide) ?_
  refine k_istore_n 1 (lv' := [(1, _), (0, _)]) dX1_read_6 rfl (by decide) rfl ?_
  refine k_iconst (0) dX1_read_7 (by decide) ?_
  refine k_istore_n 2 (lv' := [(2, _), (1, _), (0, _)]) dX1_read_8 rfl (by decide) rfl ?_
  refine k_iconst (0) dX1_read_9 (by decide) ?_
  refine k_istore_n 3 (lv' := [(3, _), (2, _), (1, _), (0, _)]) dX1_read_10 rfl (by decide) rfl ?_
  exact lp11 len 0 _ _ _ (by simp [kn_up]; exact hlen) (by omega) hQ
