-- the history, the firing text
theorem k_ldcf {X : kn_X} {M : kn_M} {pc : Nat} {lv : kn_L} {σ : kn_S} {τ : kn_T} {z : kn_Z} {c n : Nat} {Q : kn_Q} {i : Nat} {v : UInt32} {st : List Value} (hd : decode M.2.1 pc = .ok (.ldc i, 2)) (hc : Cond.constantFloat M.1.cls i v ∈ kn_ws) (k : kn_Go X M (pc + 2) lv (.float v :: st) σ τ z c n Q) : kn_Go X M pc lv st σ τ z c n Q := by
  intro D cs z0 ar p l e R s m args below meth cd n0 a0 mc ms QF Cx ad H locs ls cells slots hA
  exact lv_ldcf Cx.1.1.1 Cx.1.1.2.1 Cx.1.1.2.2.2.1 (Cx.1.1.2.2.2.2 _ hc) hd (k D cs z0 ar p l e R s m args below meth cd n0 a0 mc ms QF Cx ad H locs ls cells slots hA)
def kn_re (lv : kn_L) (ks : List Nat) : kn_L := ks.filterMap (fun k => (kn_get lv k).map (fun v => (k, v)))
theorem k_re {X : kn_X} {M : kn_M} {pc : Nat} {lv lv' : kn_L} {σ : kn_S} {τ : kn_T} {z : kn_Z} {c n : Nat} {Q : kn_Q} {st : List Value} (ks : List Nat) (h : kn_re lv ks = lv') (k : kn_Go X M pc lv' st σ τ z c n Q) : kn_Go X M pc lv st σ τ z c n Q := by
  refine k_sub (lv' := lv') (fun q hq => ?_) k
  rw [← h] at hq
  obtain ⟨j, -, hj⟩ := List.mem_filterMap.mp hq
  cases hg : kn_get lv j with
  | none => rw [hg] at hj; cases hj
  | some v => rw [hg] at hj; cases hj; exact kn_get_mem hg
def kn_isHi (z : kn_Z) (h : Nat) : Prop := (h < z.1 ∧ z.2 h = .inl (1, [some (.ref (h + 1)), none, none])) ∧ (h + 1 < z.1 ∧ z.2 (h + 1) = .inr (.inr [.ref (h + 2), .ref (h + 22), .ref (h + 42), .ref (h + 62)])) ∧ kn_isSt z (h + 2) ∧ kn_isSt z (h + 22) ∧ kn_isSt z (h + 42) ∧ kn_isSt z (h + 62)
theorem kn_isHi_st {z : kn_Z} {h r : Nat} (hh : kn_isHi z h) (hr : r < 4) : kn_isSt z (h + 2 + 20 * r) := by
  obtain ⟨-, -, h0, h1, h2, h3⟩ := hh
  have : r = 0 ∨ r = 1 ∨ r = 2 ∨ r = 3 := by omega
  rcases this with rfl | rfl | rfl | rfl
  · exact h0
  · exact h1
  · exact h2
  · exact h3
theorem kn_hi_at {h r : Nat} (hr : r < 4) : ([Value.ref (h + 2), Value.ref (h + 22), Value.ref (h + 42), Value.ref (h + 62)] : List Value).getD r .null = .ref (h + 2 + 20 * r) := by
  have : r = 0 ∨ r = 1 ∨ r = 2 ∨ r = 3 := by omega
  rcases this with rfl | rfl | rfl | rfl <;> rfl
theorem kn_rem {a : Int32} {x d : Nat} {y : Int32} (ha : a = nI x) (hx : x < 2 ^ 31) (h0 : 0 < d) (hd : d < 2 ^ 31) (hy : y = nI d) : a - a / y * y = nI (x % d) := by
  rw [ha, hy, pk_rem hx h0 hd]
theorem kn_hpl {a b : Int32} {o q : Nat} (ho : a = nI o) (hq : b = nI q) (h1 : o < 4) (h2 : q ≤ 4) : (a + b) - (a + b) / 4 * 4 = nI ((o + q) % 4) := kn_rem (by rw [ho, hq, nI_add]) (by omega) (by omega) (by omega) rfl
def kf_keepH (s : kn_S) (h b o k : Nat) : kn_S :=
  let s1 := kf_cpySt s (h + 2 + 20 * ((o + k) % 4)) b
  if 4 ≤ s1 h 2 then kn_up s1 h 1 (s1 h 1 + 1 - (s1 h 1 + 1) / 4 * 4) else kn_up s1 h 2 (s1 h 2 + 1)
def kf_restH (s : kn_S) (h b o k : Nat) : kn_S :=
  if s h 2 ≤ 0 then s else kf_cpySt (kn_up s h 2 (s h 2 - 1)) b (h + 2 + 20 * ((o + (k - 1)) % 4))
def kn_isTx (z : kn_Z) (t : Nat) : Prop := (t < z.1 ∧ z.2 t = .inl (0, [some (.ref (t + 1)), some (.ref (t + 3)), none, none])) ∧ kn_isRow z (t + 1) 120 ∧ kn_isRow z (t + 3) 60
def kf_tadd (s : kn_S) (t : Nat) (v : Int32) : kn_S := if 120 ≤ s t 2 then s else (let s1 := kf_put s (t + 2) 120 (s t 2) v; kn_up s1 t 2 (s1 t 2 + 1))
def kf_sep (s : kn_S) (t : Nat) : Int32 := if s t 3 - s t 3 / 3 * 3 = 2 then 59 else 32
def kf_numb (s : kn_S) (t : Nat) (f w : Int32) : Int32 := kf_at (s (t + 4)) 60 (3 * f + w)
/-- a byte is read: none where it cannot stand there -/
def kf_rsep (s : kn_S) (t : Nat) (ch dg nu : Int32) : Option (kn_S × Int32 × Int32) :=
  if dg ≤ 0 then none else if ch = kf_sep s t then (let s1 := kf_put s (t + 4) 60 (s t 3) nu; some (kn_up s1 t 3 (s1 t 3 + 1), 0, 0)) else none
def kf_rstep (s : kn_S) (t : Nat) (ch dg nu : Int32) : Option (kn_S × Int32 × Int32) :=
  if ch < 48 then kf_rsep s t ch dg nu else if 57 < ch then kf_rsep s t ch dg nu else if 5 ≤ dg then kf_rsep s t ch dg nu else some (s, dg + 1, 10 * nu + ch - 48)
def kf_rend (s : kn_S) (t : Nat) (dg : Int32) : Int32 := if dg = 0 then (if s t 3 - s t 3 / 3 * 3 = 0 then -1 else s t 2) else s t 2
def kf_rd (t : Nat) : Nat → Nat → kn_S → Int32 → Int32 → Int32 × kn_S
  | 0, _, s, dg, _ => (kf_rend s t dg, s)
  | r + 1, i, s, dg, nu => match kf_rstep s t (kf_at (s (t + 2)) 120 (nI i)) dg nu with
    | none => (nI i, s)
    | some (s1, dg1, nu1) => kf_rd t r (i + 1) s1 dg1 nu1
def kf_read (s : kn_S) (t len : Nat) : Int32 × kn_S := kf_rd t len 0 (kn_up s t 3 0) 0 0

set_option maxRecDepth 100000 in
set_option maxHeartbeats 4000000 in
theorem m_X2_size {X : kn_X} {σ : kn_S} {τ : kn_T} {z : kn_Z} {c n : Nat} {Q : kn_Q} {h : Nat} (hh : kn_isHi z h) (hQ : Q (.inl (some (.int (σ h 2)))) σ τ z) : kn_Ev X MX2_size [.ref h] σ τ z c n Q := by
  refine kn_entry (by decide +kernel) rfl (Nat.le_of_ble_eq_true rfl) ?_
  show kn_Go X MX2_size 0 [(0, .ref h)] [] _ _ _ _ _ _
  refine k_aload_n 0 dX2_size_0 rfl rfl ?_
  refine k_getfield dX2_size_1 hc_X2 hh.1.1 hh.1.2 2 (by decide) wF_X2_18 rfl ?_
  refine k_iret dX2_size_4 rfl (rfl) ?_
  exact hQ

set_option maxRecDepth 100000 in
set_option maxHeartbeats 4000000 in
theorem m_X2_placeOf {X : kn_X} {σ : kn_S} {τ : kn_T} {z : kn_Z} {c n : Nat} {Q : kn_Q} {h o q : Nat} {p : Int32} (hh : kn_isHi z h) (ho : σ h 1 = nI o) (ho4 : o < 4) (hp : p = nI q) (hq : q ≤ 4) (hQ : Q (.inl (some (.ref (h + 2 + 20 * ((o + q) % 4))))) σ τ z) : kn_Ev X MX2_placeOf [.ref h, .int p] σ τ z c n Q := by
  have hx := kn_hpl ho hp ho4 hq
  have hr4 : (o + q) % 4 < 4 := by omega
  refine kn_entry (by decide +kernel) rfl (Nat.le_of_ble_eq_true rfl) ?_
  show kn_Go X MX2_placeOf 0 [(0, .ref h), (1, .int p)] [] _ _ _ _ _ _
  refine k_aload_n 0 dX2_placeOf_0 rfl rfl ?_
  refine k_getfield dX2_placeOf_1 hc_X2 hh.1.1 hh.1.2 1 (by decide) wF_X2_30 rfl ?_
  refine k_iload_n 1 dX2_placeOf_4 rfl rfl ?_
  refine k_iadd dX2_placeOf_5 ?_
  refine k_iconst (4) dX2_placeOf_6 (by decide) ?_
  refine k_irem dX2_placeOf_7 (by decide) ?_
  refine k_istore_n 2 (lv' := [(2, _), (0, _), (1, _)]) dX2_placeOf_8 rfl (by decide) rfl ?_
  refine k_iload_n 2 dX2_placeOf_9 rfl rfl ?_
  refine k_iflt 31 dX2_placeOf_10 (by decide) (fun h10 => ?_) (fun h10 => ?_)
  · exact absurd h10 (by rw [hx]; exact nI_pos (by omega))
  · refine k_iload_n 2 dX2_placeOf_13 rfl rfl ?_
    refine k_aload_n 0 dX2_placeOf_14 rfl rfl ?_
    refine k_getfield dX2_placeOf_15 hc_X2 hh.1.1 hh.1.2 0 (by decide) wF_X2_11 rfl ?_
    refine k_alenR dX2_placeOf_18 hh.2.1.1 hh.2.1.2 ?_
    refine k_icmpge 31 dX2_placeOf_19 (by decide) (fun h19 => ?_) (fun h19 => ?_)
    · exact absurd h19 (by rw [hx]; exact nI_ge hr4 (by show (4 : Nat) < 2 ^ 31; decide))
    · refine k_aload_n 0 dX2_placeOf_22 rfl rfl ?_
      refine k_getfield dX2_placeOf_23 hc_X2 hh.1.1 hh.1.2 0 (by decide) wF_X2_11 rfl ?_
      refine k_iload_n 2 dX2_placeOf_26 rfl rfl ?_
      refine k_aaload (h + 2 + 20 * ((o + q) % 4)) dX2_placeOf_27 hh.2.1.1 hh.2.1.2 (by rw [hx]; exact vp_in_nI hr4 (by show (4 : Nat) < 2 ^ 31; decide)) (by rw [hx, nI_clamp (by omega)]; exact kn_hi_at hr4) ?_
      refine k_goto 32 dX2_placeOf_28 (by decide) ?_
      refine k_aret dX2_placeOf_32 rfl ?_
      exact hQ

set_option maxRecDepth 100000 in
set_option maxHeartbeats 4000000 in
theorem m_X2_keep {X : kn_X} {σ : kn_S} {τ : kn_T} {z : kn_Z} {c n : Nat} {Q : kn_Q} {h b o k : Nat} (hh : kn_isHi z h) (hs : kn_isSt z b) (hb1 : kn_01 (σ b 12)) (hb2 : kn_01 (σ b 16)) (ho : σ h 1 = nI o) (ho4 : o < 4) (hk : σ h 2 = nI k) (hk4 : k ≤ 4) (hQ : Q (.inl none) (kf_keepH σ h b o k) τ z) : kn_Ev X MX2_keep [.ref h, .ref b] σ τ z c n Q := by
  have hr4 : (o + k) % 4 < 4 := by omega
  refine kn_entry (by decide +kernel) rfl (Nat.le_of_ble_eq_true rfl) ?_
  show kn_Go X MX2_keep 0 [(0, .ref h), (1, .ref b)] [] _ _ _ _ _ _
  refine k_aload_n 0 dX2_keep_0 rfl rfl ?_
  refine k_aload_n 0 dX2_keep_1 rfl rfl ?_
  refine k_getfield dX2_keep_2 hc_X2 hh.1.1 hh.1.2 2 (by decide) wF_X2_18 rfl ?_
  refine k_invV (As := [_]) dX2_keep_5 mm_X2_placeOf wL_X2_22 ⟨by decide, by decide⟩ hh.1.1 hh.1.2 rfl rfl (Nat.le_of_ble_eq_true rfl) (Nat.zero_le _) (Nat.zero_le _) (m_X2_placeOf hh ho ho4 hk hk4 ⟨rfl, ?_⟩)
  refine k_astore_n 2 (lv' := [(2, _), (0, _), (1, _)]) dX2_keep_8 rfl (by decide) rfl ?_
  refine k_aload_n 2 dX2_keep_9 rfl rfl ?_
  refine k_ifnull dX2_keep_10 ?_
  refine k_aload_n 2 dX2_keep_13 rfl rfl ?_
  refine k_aload_n 1 dX2_keep_14 rfl rfl ?_
  refine k_invV (As := [_]) dX2_keep_15 mm_X5_copy wL_X2_26 ⟨by decide, by decide⟩ (kn_isHi_st hh hr4).1.1 (kn_isHi_st hh hr4).1.2 rfl rfl (Nat.le_of_ble_eq_true rfl) (Nat.zero_le _) (Nat.zero_le _) (m_X5_copy (kn_isHi_st hh hr4) hs hb1 hb2 ⟨rfl, ?_⟩)
  refine k_aload_n 0 dX2_keep_18 rfl rfl ?_
  refine k_getfield dX2_keep_19 hc_X2 hh.1.1 hh.1.2 2 (by decide) wF_X2_18 rfl ?_
  refine k_iconst (4) dX2_keep_22 (by decide) ?_
  refine k_icmpge 39 dX2_keep_23 (by decide) (fun h23 => ?_) (fun h23 => ?_)
  · refine k_aload_n 0 dX2_keep_39 rfl rfl ?_
    refine k_aload_n 0 dX2_keep_40 rfl rfl ?_
    refine k_getfield dX2_keep_41 hc_X2 hh.1.1 hh.1.2 1 (by decide) wF_X2_30 rfl ?_
    refine k_iconst (1) dX2_keep_44 (by decide) ?_
    refine k_iadd dX2_keep_45 ?_
    refine k_iconst (4) dX2_keep_46 (by decide) ?_
    refine k_irem dX2_keep_47 (by decide) ?_
    refine k_putfield dX2_keep_48 hc_X2 hh.1.1 hh.1.2 1 (by decide) wF_X2_30 rfl rfl (t9 := .int) (by decide +kernel) rfl rfl ?_
    refine k_vret dX2_keep_51 rfl ?_
    dsimp only [kf_keepH] at hQ
    rw [if_pos h23] at hQ
    exact hQ
  · refine k_aload_n 0 dX2_keep_26 rfl rfl ?_
    refine k_dup dX2_keep_27 rfl ?_
    refine k_getfield dX2_keep_28 hc_X2 hh.1.1 hh.1.2 2 (by decide) wF_X2_18 rfl ?_
    refine k_iconst (1) dX2_keep_31 (by decide) ?_
    refine k_iadd dX2_keep_32 ?_
    refine k_putfield dX2_keep_33 hc_X2 hh.1.1 hh.1.2 2 (by decide) wF_X2_18 rfl rfl (t9 := .int) (by decide +kernel) rfl rfl ?_
    refine k_goto 51 dX2_keep_36 (by decide) ?_
    refine k_vret dX2_keep_51 rfl ?_
    dsimp only [kf_keepH] at hQ
    rw [if_neg h23] at hQ
    exact hQ

set_option maxRecDepth 100000 in
set_option maxHeartbeats 4000000 in
theorem m_X2_restore {X : kn_X} {σ : kn_S} {τ : kn_T} {z : kn_Z} {c n : Nat} {Q : kn_Q} {h b o k : Nat} (hh : kn_isHi z h) (hs : kn_isSt z b) (hb : ∀ r, r < 4 → kn_01 (σ (h + 2 + 20 * r) 12) ∧ kn_01 (σ (h + 2 + 20 * r) 16)) (ho : σ h 1 = nI o) (ho4 : o < 4) (hk : σ h 2 = nI k) (hk4 : k ≤ 4) (hQ : Q (.inl none) (kf_restH σ h b o k) τ z) : kn_Ev X MX2_restore [.ref h, .ref b] σ τ z c n Q := by
  have hr4 : (o + (k - 1)) % 4 < 4 := by omega
  have hk1 : ¬ σ h 2 ≤ 0 → kn_up σ h 2 (σ h 2 - 1) h 2 = nI (k - 1) := by
    intro h9
    have h8 : 0 < k := by
      rcases Nat.eq_zero_or_pos k with h7 | h7
      · exact absurd (by rw [hk, h7]; decide) h9
      · exact h7
    simp only [kn_up, and_self, if_true]
    rw [hk]
    exact pk_sub (a := k) (b := 1) h8
  have hb12 : ∀ r, r < 4 → kn_01 (kn_up σ h 2 (σ h 2 - 1) (h + 2 + 20 * r) 12) ∧ kn_01 (kn_up σ h 2 (σ h 2 - 1) (h + 2 + 20 * r) 16) := by
    intro r hr
    simpa [kn_up] using hb r hr
  refine kn_entry (by decide +kernel) rfl (Nat.le_of_ble_eq_true rfl) ?_
  show kn_Go X MX2_restore 0 [(0, .ref h), (1, .ref b)] [] _ _ _ _ _ _
  refine k_aload_n 0 dX2_restore_0 rfl rfl ?_
  refine k_getfield dX2_restore_1 hc_X2 hh.1.1 hh.1.2 2 (by decide) wF_X2_18 rfl ?_
  refine k_ifle 35 dX2_restore_4 (by decide) (fun h4 => ?_) (fun h4 => ?_)
  · refine k_vret dX2_restore_35 rfl ?_
    dsimp only [kf_restH] at hQ
    rw [if_pos h4] at hQ
    exact hQ
  · refine k_aload_n 0 dX2_restore_7 rfl rfl ?_
    refine k_dup dX2_restore_8 rfl ?_
    refine k_getfield dX2_restore_9 hc_X2 hh.1.1 hh.1.2 2 (by decide) wF_X2_18 rfl ?_
    refine k_iconst (1) dX2_restore_12 (by decide) ?_
    refine k_isub dX2_restore_13 ?_
    refine k_putfield dX2_restore_14 hc_X2 hh.1.1 hh.1.2 2 (by decide) wF_X2_18 rfl rfl (t9 := .int) (by decide +kernel) rfl rfl ?_
    refine k_aload_n 0 dX2_restore_17 rfl rfl ?_
    refine k_aload_n 0 dX2_restore_18 rfl rfl ?_
    refine k_getfield dX2_restore_19 hc_X2 hh.1.1 hh.1.2 2 (by decide) wF_X2_18 rfl ?_
    refine k_invV (As := [_]) dX2_restore_22 mm_X2_placeOf wL_X2_22 ⟨by decide, by decide⟩ hh.1.1 hh.1.2 rfl rfl (Nat.le_of_ble_eq_true rfl) (Nat.zero_le _) (Nat.zero_le _) (m_X2_placeOf hh (by simpa [kn_up] using ho) ho4 (hk1 h4) (by omega) ⟨rfl, ?_⟩)
    refine k_astore_n 2 (lv' := [(2, _), (0, _), (1, _)]) dX2_restore_25 rfl (by decide) rfl ?_
    refine k_aload_n 2 dX2_restore_26 rfl rfl ?_
    refine k_ifnull dX2_restore_27 ?_
    refine k_aload_n 1 dX2_restore_30 rfl rfl ?_
    refine k_aload_n 2 dX2_restore_31 rfl rfl ?_
    refine k_invV (As := [_]) dX2_restore_32 mm_X5_copy wL_X2_26 ⟨by decide, by decide⟩ hs.1.1 hs.1.2 rfl rfl (Nat.le_of_ble_eq_true rfl) (Nat.zero_le _) (Nat.zero_le _) (m_X5_copy hs (kn_isHi_st hh hr4) (hb12 _ hr4).1 (hb12 _ hr4).2 ⟨rfl, ?_⟩)
    refine k_vret dX2_restore_35 rfl ?_
    dsimp only [kf_restH] at hQ
    rw [if_neg h4] at hQ
    exact hQ

set_option maxRecDepth 100000 in
set_option maxHeartbeats 4000000 in
theorem m_X1_size {X : kn_X} {σ : kn_S} {τ : kn_T} {z : kn_Z} {c n : Nat} {Q : kn_Q} {t : Nat} (ht : kn_isTx z t) (hQ : Q (.inl (some (.int (σ t 2)))) σ τ z) : kn_Ev X MX1_size [.ref t] σ τ z c n Q := by
  refine kn_entry (by decide +kernel) rfl (Nat.le_of_ble_eq_true rfl) ?_
  show kn_Go X MX1_size 0 [(0, .ref t)] [] _ _ _ _ _ _
  refine k_aload_n 0 dX1_size_0 rfl rfl ?_
  refine k_getfield dX1_size_1 hc_X1 ht.1.1 ht.1.2 2 (by decide) wF_X1_23 rfl ?_
  refine k_iret dX1_size_4 rfl (rfl) ?_
  exact hQ

set_option maxRecDepth 100000 in
set_option maxHeartbeats 4000000 in
theorem m_X1_add {X : kn_X} {σ : kn_S} {τ : kn_T} {z : kn_Z} {c n : Nat} {Q : kn_Q} {t : Nat} {v : Int32} (ht : kn_isTx z t) (hQ : Q (.inl none) (kf_tadd σ t v) τ z) : kn_Ev X MX1_add [.ref t, .int v] σ τ z c n Q := by
  refine kn_entry (by decide +kernel) rfl (Nat.le_of_ble_eq_true rfl) ?_
  show kn_Go X MX1_add 0 [(0, .ref t), (1, .int v)] [] _ _ _ _ _ _
  refine k_aload_n 0 dX1_add_0 rfl rfl ?_
  refine k_getfield dX1_add_1 hc_X1 ht.1.1 ht.1.2 2 (by decide) wF_X1_23 rfl ?_
  refine k_bipush (120) dX1_add_4 (by decide) ?_
  refine k_icmpge 31 dX1_add_6 (by decide) (fun h6 => ?_) (fun h6 => ?_)
  · refine k_vret dX1_add_31 rfl ?_
    dsimp only [kf_tadd] at hQ
    rw [if_pos h6] at hQ
    exact hQ
  · refine k_aload_n 0 dX1_add_9 rfl rfl ?_
    refine k_getfield dX1_add_10 hc_X1 ht.1.1 ht.1.2 0 (by decide) wF_X1_14 rfl ?_
    refine k_aload_n 0 dX1_add_13 rfl rfl ?_
    refine k_getfield dX1_add_14 hc_X1 ht.1.1 ht.1.2 2 (by decide) wF_X1_23 rfl ?_
    refine k_iload_n 1 dX1_add_17 rfl rfl ?_
    refine k_invV (As := [_, _]) dX1_add_18 mm_X4_put wL_X1_27 ⟨by decide, by decide⟩ ht.2.1.1.1 ht.2.1.1.2 rfl rfl (Nat.le_of_ble_eq_true rfl) (Nat.zero_le _) (Nat.zero_le _) (m_X4_put ht.2.1 (Nat.le_of_ble_eq_true rfl) ⟨rfl, ?_⟩)
    refine k_aload_n 0 dX1_add_21 rfl rfl ?_
    refine k_dup dX1_add_22 rfl ?_
    refine k_getfield dX1_add_23 hc_X1 ht.1.1 ht.1.2 2 (by decide) wF_X1_23 rfl ?_
    refine k_iconst (1) dX1_add_26 (by decide) ?_
    refine k_iadd dX1_add_27 ?_
    refine k_putfield dX1_add_28 hc_X1 ht.1.1 ht.1.2 2 (by decide) wF_X1_23 rfl rfl (t9 := .int) (by decide +kernel) rfl rfl ?_
    refine k_vret dX1_add_31 rfl ?_
    dsimp only [kf_tadd] at hQ
    rw [if_neg h6] at hQ
    exact hQ

