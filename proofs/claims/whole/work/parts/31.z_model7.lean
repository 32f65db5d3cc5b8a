-- the model: its text
theorem k_getfieldV {X : kn_X} {M : kn_M} {pc : Nat} {lv : kn_L} {σ : kn_S} {τ : kn_T} {z : kn_Z} {c n : Nat} {Q : kn_Q} {st : List Value} {i idx ci N : Nat} {C : String} {T : u_T} {ty : Nat → FieldType} {ds : List (Option Value)} {v : Int32} (hd : decode M.2.1 pc = .ok (.getfield idx, 3)) (hc : kn_cf ci C T N ty) (hi : i < z.1) (hz : z.2 i = .inl (ci, ds)) (k : Nat) (hk : k < N) (hL : Cond.fieldLink M.1.cls idx (T k).1 (T k).2.1 (T k).2.2.1 ∈ kn_ws) (hdk : ds[k]? = some none) (hv : σ i k = v)
    (kk : kn_Go X M (pc + 3) lv (.int v :: st) σ τ z c n Q) : kn_Go X M pc lv (.ref i :: st) σ τ z c n Q :=
  k_getfield hd hc hi hz k hk hL hdk (by rw [kn_av, hv]; exact kk)
theorem kn_up_id {s : kn_S} {b k : Nat} {x : Int32} (h : s b k = x) : kn_up s b k x = s := by
  funext a j
  unfold kn_up
  split
  · rename_i q
    rw [q.1, q.2, h]
  · rfl
def kg_dig (s : kn_S) (sp len : Nat) : Int32 := if len ≤ sp then 0 else kf_within (s 132 sp) 48 57
/-- where the reading stands, and the number read -/
def kg_p (s : kn_S) (sp : Nat) (nu : Int32) : kn_S := kn_up (kn_up s 128 8 nu) 128 7 (nI sp)
theorem kg_p_p (s : kn_S) (sp : Nat) (nu nu2 x : Int32) : kn_up (kn_up (kg_p s sp nu) 128 8 nu2) 128 7 x = kn_up (kn_up s 128 8 nu2) 128 7 x := by
  funext a b
  unfold kg_p kn_up
  by_cases h1 : a = 128 ∧ b = 7
  · rw [if_pos h1, if_pos h1]
  · rw [if_neg h1, if_neg h1]
    by_cases h2 : a = 128 ∧ b = 8
    · simp only [if_pos h2, if_neg h1]
    · simp only [if_neg h2, if_neg h1]
theorem kg_p_s (s : kn_S) (sp sp2 : Nat) (nu : Int32) : kn_up (kg_p s sp nu) 128 7 (nI sp2) = kg_p s sp2 nu := by
  funext a b
  unfold kg_p kn_up
  by_cases h1 : a = 128 ∧ b = 7
  · rw [if_pos h1, if_pos h1]
  · rw [if_neg h1, if_neg h1, if_neg h1]
def kg_rdL (s : kn_S) (len : Nat) : Nat → Nat → Int32 → Nat × Int32
  | 0, sp, nu => (sp, nu)
  | r + 1, sp, nu => if kg_dig s sp len = 0 then (sp, nu) else kg_rdL s len r (sp + 1) (10 * nu + s 132 sp - 48)
def kg_rb (s : kn_S) (len first sp : Nat) (be : Int32) : Nat := if sp ≤ first then 0 else if len ≤ sp then 0 else if s 132 sp = be then 1 else 0
/-- a number and the byte behind it: whether they are there, where the reading stands, the number -/
def kg_rdR (s : kn_S) (len first : Nat) (be : Int32) (p : Nat × Int32) : Nat × Nat × Int32 := (kg_rb s len first p.1 be, p.1 + kg_rb s len first p.1 be, p.2)
def kg_rds (s : kn_S) (len sp : Nat) (be : Int32) : Nat × Nat × Int32 := kg_rdR s len sp be (kg_rdL s len 5 sp 0)
theorem kg_dig_lt {s : kn_S} {sp len : Nat} (h : ¬ kg_dig s sp len = 0) : sp < len := by
  unfold kg_dig at h
  rcases Nat.lt_or_ge sp len with q | q
  · exact q
  · rw [if_pos q] at h; exact absurd rfl h
theorem kg_rdL_le (s : kn_S) (len : Nat) : ∀ r sp nu, sp ≤ len → sp ≤ (kg_rdL s len r sp nu).1 ∧ (kg_rdL s len r sp nu).1 ≤ len
  | 0, sp, nu, h => ⟨Nat.le_refl _, h⟩
  | r + 1, sp, nu, h => by
    unfold kg_rdL
    split
    · exact ⟨Nat.le_refl _, h⟩
    · rename_i q
      have h1 := kg_dig_lt q
      have h2 := kg_rdL_le s len r (sp + 1) (10 * nu + s 132 sp - 48) (by omega)
      exact ⟨by omega, h2.2⟩
theorem kg_rb_le (s : kn_S) (len first sp : Nat) (be : Int32) : kg_rb s len first sp be ≤ 1 ∧ (kg_rb s len first sp be = 1 → first < sp ∧ sp < len) := by
  unfold kg_rb
  split
  · exact ⟨by omega, fun h => absurd h (by omega)⟩
  split
  · exact ⟨by omega, fun h => absurd h (by omega)⟩
  split
  · exact ⟨by omega, fun _ => ⟨by omega, by omega⟩⟩
  · exact ⟨by omega, fun h => absurd h (by omega)⟩
theorem kg_rds_le (s : kn_S) (len sp : Nat) (be : Int32) (h : sp ≤ len) : sp ≤ (kg_rds s len sp be).2.1 ∧ (kg_rds s len sp be).2.1 ≤ len ∧ (¬ (kg_rds s len sp be).1 = 0 → sp < (kg_rds s len sp be).2.1) := by
  have h1 := kg_rdL_le s len 5 sp 0 h
  have h2 := kg_rb_le s len sp (kg_rdL s len 5 sp 0).1 be
  dsimp only [kg_rds, kg_rdR]
  refine ⟨by omega, ?_, fun q => by have := h2.2 (by omega); omega⟩
  by_cases q : kg_rb s len sp (kg_rdL s len 5 sp 0).1 be = 1
  · have := h2.2 q; omega
  · omega
/-- a firing read: whether it is there, where the reading stands, the state behind it -/
def kg_rf (s : kn_S) (len sp : Nat) : Nat × Nat × kn_S :=
  if (kg_rds s len sp 32).1 = 0 then (0, (kg_rds s len sp 32).2.1, kg_p s (kg_rds s len sp 32).2.1 (kg_rds s len sp 32).2.2) else
  let s1 := kn_up (kg_p s (kg_rds s len sp 32).2.1 (kg_rds s len sp 32).2.2) 128 9 (kg_rds s len sp 32).2.2
  let a := (kg_rds s len sp 32).2.1
  if (kg_rds s1 len a 32).1 = 0 then (0, (kg_rds s1 len a 32).2.1, kg_p s1 (kg_rds s1 len a 32).2.1 (kg_rds s1 len a 32).2.2) else
  let s2 := kn_up (kg_p s1 (kg_rds s1 len a 32).2.1 (kg_rds s1 len a 32).2.2) 128 10 (kg_rds s1 len a 32).2.2
  let b := (kg_rds s1 len a 32).2.1
  ((kg_rds s2 len b 59).1, (kg_rds s2 len b 59).2.1, kn_up (kg_p s2 (kg_rds s2 len b 59).2.1 (kg_rds s2 len b 59).2.2) 128 11 (kg_rds s2 len b 59).2.2)
theorem kg_rds_2 (s : kn_S) (len sp : Nat) (be : Int32) : kg_rds s len sp be = ((kg_rds s len sp be).1, (kg_rds s len sp be).2.1, (kg_rds s len sp be).2.2) := rfl

set_option maxRecDepth 100000 in
set_option maxHeartbeats 4000000 in
theorem m_X7_isDigit {X : kn_X} {σ : kn_S} {τ : kn_T} {z : kn_Z} {c n : Nat} {Q : kn_Q} {sp len : Nat} (hM : kn_isM z) (hsp : σ 128 7 = nI sp) (hlen : σ 128 6 = nI len) (hl120 : len ≤ 120) (hs120 : sp ≤ 120) (hQ : Q (.inl (some (.int (kg_dig σ sp len)))) σ τ z) : kn_Ev X MX7_isDigit [.ref 128] σ τ z c n Q := by
  refine kn_entry (by decide +kernel) rfl (Nat.le_of_ble_eq_true rfl) ?_
  show kn_Go X MX7_isDigit 0 [(0, .ref 128)] [] _ _ _ _ _ _
  refine k_aload_n 0 dX7_isDigit_0 rfl rfl ?_
  refine k_getfieldV dX7_isDigit_1 hc_X7 hM.1.1 hM.1.2 7 (by decide) wF_X7_145 rfl (hsp) ?_
  refine k_aload_n 0 dX7_isDigit_4 rfl rfl ?_
  refine k_getfieldV dX7_isDigit_5 hc_X7 hM.1.1 hM.1.2 6 (by decide) wF_X7_142 rfl (hlen) ?_
  refine k_icmpge 34 dX7_isDigit_8 (by decide) (fun h8 => ?_) (fun h8 => ?_)
  · have h8 := (nI_leI (by omega) (by omega)).mp h8
    refine k_iconst (0) dX7_isDigit_34 (by decide) ?_
    refine k_iret dX7_isDigit_35 rfl (rfl) ?_
    rw [kg_dig, if_pos h8] at hQ
    exact hQ
  · have h8 : ¬ len ≤ sp := fun q => h8 (nI_le q (by omega))
    refine k_aload_n 0 dX7_isDigit_11 rfl rfl ?_
    refine k_getfield dX7_isDigit_12 hc_X7 hM.1.1 hM.1.2 5 (by decide) wF_X7_19 rfl ?_
    refine k_aload_n 0 dX7_isDigit_15 rfl rfl ?_
    refine k_getfieldV dX7_isDigit_16 hc_X7 hM.1.1 hM.1.2 7 (by decide) wF_X7_145 rfl (hsp) ?_
    refine k_ialoadN (sp) dX7_isDigit_19 hM.2.2.2.2.1 hM.2.2.2.2.2 (rfl) (⟨by omega, by decide⟩) ?_
    refine k_bipush (48) dX7_isDigit_20 (by decide) ?_
    refine k_bipush (57) dX7_isDigit_22 (by decide) ?_
    refine k_invS (As := [_, _, _]) dX7_isDigit_24 mm_X7_within wL_X7_38 ⟨by decide, by decide⟩ rfl rfl (Nat.le_of_ble_eq_true rfl) (Nat.zero_le _) (Nat.zero_le _) (m_X7_within ⟨rfl, ?_⟩)
    refine k_ifeq 34 dX7_isDigit_27 (by decide) (fun h27 => ?_) (fun h27 => ?_)
    · refine k_iconst (0) dX7_isDigit_34 (by decide) ?_
      refine k_iret dX7_isDigit_35 rfl (rfl) ?_
      rw [kg_dig, if_neg h8, h27] at hQ
      exact hQ
    · refine k_iconst (1) dX7_isDigit_30 (by decide) ?_
      refine k_goto 35 dX7_isDigit_31 (by decide) ?_
      refine k_iret dX7_isDigit_35 rfl (rfl) ?_
      rw [kg_dig, if_neg h8, kf_within_n0 h27] at hQ
      exact hQ

theorem kg_sub {a b : Nat} (h : b ≤ a) : nI a - nI b = nI (a - b) := by
  have e : nI a = nI (a - b) + nI b := by rw [nI_add]; congr 1; omega
  rw [e, Int32.add_sub_cancel]
set_option maxRecDepth 100000 in
set_option maxHeartbeats 4000000 in
theorem m_X7_reads {X : kn_X} {σ : kn_S} {τ : kn_T} {z : kn_Z} {c n : Nat} {Q : kn_Q} {sp len : Nat} {be : Int32} (hM : kn_isM z) (hsp : σ 128 7 = nI sp) (hlen : σ 128 6 = nI len) (hl120 : len ≤ 120) (hs : sp ≤ len) (hQ : Q (.inl (some (.int (nI (kg_rds σ len sp be).1)))) (kg_p σ (kg_rds σ len sp be).2.1 (kg_rds σ len sp be).2.2) τ z) : kn_Ev X MX7_reads [.ref 128, .int be] σ τ z c n Q := by
  refine kn_entry (by decide +kernel) rfl (Nat.le_of_ble_eq_true rfl) ?_
  show kn_Go X MX7_reads 0 [(0, .ref 128), (1, .int be)] [] _ _ _ _ _ _
  have cut102 : ∀ (q k : Nat) (nu : Int32), k ≤ 1 → q ≤ 120 → Q (.inl (some (.int (nI k)))) (kg_p σ (q + k) nu) τ z → kn_Go X MX7_reads 102 [(3, .int (nI k)), (0, .ref 128)] [] (kg_p σ q nu) τ z c n Q := by
    intro q k nu hk1 hq hQ
    refine k_aload_n 0 dX7_reads_102 rfl rfl ?_
    refine k_dup dX7_reads_103 rfl ?_
    refine k_getfieldV dX7_reads_104 hc_X7 hM.1.1 hM.1.2 7 (by decide) wF_X7_145 rfl ((rfl : _ = nI q)) ?_
    refine k_iload_n 3 dX7_reads_107 rfl rfl ?_
    refine k_ifeq 115 dX7_reads_108 (by decide) (fun h108 => ?_) (fun h108 => ?_)
    · have hk0 : k = 0 := by rcases Nat.eq_zero_or_pos k with r | r; exact r; exact absurd h108 (nI_ne0 r (by omega))
      subst hk0
      refine k_iconst (0) dX7_reads_115 (by decide) ?_
      refine k_iadd dX7_reads_116 ?_
      refine k_putfield dX7_reads_117 hc_X7 hM.1.1 hM.1.2 7 (by decide) wF_X7_145 rfl rfl (t9 := .int) (by decide +kernel) rfl rfl ?_
      refine k_iload_n 3 dX7_reads_120 rfl rfl ?_
      refine k_iret dX7_reads_121 rfl (rfl) ?_
      first
        | (rw [kg_p_s]; exact hQ)
        | (rw [show nI q + 0 = nI (q + 0) from Int32.add_zero _, kg_p_s]; exact hQ)
    · have hk1 : k = 1 := by have : k ≠ 0 := by { intro r; subst r; exact h108 rfl }; omega
      subst hk1
      refine k_iconst (1) dX7_reads_111 (by decide) ?_
      refine k_goto 116 dX7_reads_112 (by decide) ?_
      refine k_iadd dX7_reads_116 ?_
      refine k_putfield dX7_reads_117 hc_X7 hM.1.1 hM.1.2 7 (by decide) wF_X7_145 rfl rfl (t9 := .int) (by decide +kernel) rfl rfl ?_
      refine k_iload_n 3 dX7_reads_120 rfl rfl ?_
      refine k_iret dX7_reads_121 rfl (rfl) ?_
      rw [nI_1, kg_p_s]
      exact hQ
  have cut64 : ∀ (q : Nat) (nu : Int32), sp ≤ q → q ≤ len → Q (.inl (some (.int (nI (kg_rdR σ len sp be (q, nu)).1)))) (kg_p σ (kg_rdR σ len sp be (q, nu)).2.1 (kg_rdR σ len sp be (q, nu)).2.2) τ z → kn_Go X MX7_reads 64 [(2, .int (nI sp)), (0, .ref 128), (1, .int be)] [] (kg_p σ q nu) τ z c n Q := by
    intro q nu hqs hql hQ
    refine k_aload_n 0 dX7_reads_64 rfl rfl ?_
    refine k_getfieldV dX7_reads_65 hc_X7 hM.1.1 hM.1.2 7 (by decide) wF_X7_145 rfl ((rfl : _ = nI q)) ?_
    refine k_iload_n 2 dX7_reads_68 rfl rfl ?_
    refine k_icmple 100 dX7_reads_69 (by decide) (fun h69 => ?_) (fun h69 => ?_)
    · have h69 := (nI_leI (by omega) (by omega)).mp h69
      refine k_iconst (0) dX7_reads_100 (by decide) ?_
      refine k_istore_n 3 (lv' := [(3, _), (2, _), (0, _), (1, _)]) dX7_reads_101 rfl (by decide) rfl ?_
      refine k_re [3, 0] (lv' := [(3, _), (0, _)]) rfl ?_
      have e9 : kg_rb σ len sp q be = 0 := by rw [kg_rb]; first | rw [if_pos h69] | rw [if_neg h69, if_pos h80] | rw [if_neg h69, if_neg h80, if_neg h93] | rw [if_neg h69, if_neg h80, if_pos h93]
      rw [kg_rdR, e9] at hQ
      exact cut102 q 0 nu (by omega) (by omega) hQ
    · have h69 : ¬ q ≤ sp := fun r => h69 (nI_le r (by omega))
      refine k_aload_n 0 dX7_reads_72 rfl rfl ?_
      refine k_getfieldV dX7_reads_73 hc_X7 hM.1.1 hM.1.2 7 (by decide) wF_X7_145 rfl ((rfl : _ = nI q)) ?_
      refine k_aload_n 0 dX7_reads_76 rfl rfl ?_
      refine k_getfieldV dX7_reads_77 hc_X7 hM.1.1 hM.1.2 6 (by decide) wF_X7_142 rfl (hlen) ?_
      refine k_icmpge 100 dX7_reads_80 (by decide) (fun h80 => ?_) (fun h80 => ?_)
      · have h80 := (nI_leI (by omega) (by omega)).mp h80
        refine k_iconst (0) dX7_reads_100 (by decide) ?_
        refine k_istore_n 3 (lv' := [(3, _), (2, _), (0, _), (1, _)]) dX7_reads_101 rfl (by decide) rfl ?_
        refine k_re [3, 0] (lv' := [(3, _), (0, _)]) rfl ?_
        have e9 : kg_rb σ len sp q be = 0 := by rw [kg_rb]; first | rw [if_pos h69] | rw [if_neg h69, if_pos h80] | rw [if_neg h69, if_neg h80, if_neg h93] | rw [if_neg h69, if_neg h80, if_pos h93]
        rw [kg_rdR, e9] at hQ
        exact cut102 q 0 nu (by omega) (by omega) hQ
      · have h80 : ¬ len ≤ q := fun r => h80 (nI_le r (by omega))
        refine k_aload_n 0 dX7_reads_83 rfl rfl ?_
        refine k_getfield dX7_reads_84 hc_X7 hM.1.1 hM.1.2 5 (by decide) wF_X7_19 rfl ?_
        refine k_aload_n 0 dX7_reads_87 rfl rfl ?_
        refine k_getfieldV dX7_reads_88 hc_X7 hM.1.1 hM.1.2 7 (by decide) wF_X7_145 rfl ((rfl : _ = nI q)) ?_
        refine k_ialoadN (q) dX7_reads_91 hM.2.2.2.2.1 hM.2.2.2.2.2 (rfl) (⟨by omega, by decide⟩) ?_
        refine k_iload_n 1 dX7_reads_92 rfl rfl ?_
        refine k_icmpne 100 dX7_reads_93 (by decide) (fun h93 => ?_) (fun h93 => ?_)
        · have h93 : ¬ σ 132 q = be := h93
          refine k_iconst (0) dX7_reads_100 (by decide) ?_
          refine k_istore_n 3 (lv' := [(3, _), (2, _), (0, _), (1, _)]) dX7_reads_101 rfl (by decide) rfl ?_
          refine k_re [3, 0] (lv' := [(3, _), (0, _)]) rfl ?_
          have e9 : kg_rb σ len sp q be = 0 := by rw [kg_rb]; first | rw [if_pos h69] | rw [if_neg h69, if_pos h80] | rw [if_neg h69, if_neg h80, if_neg h93] | rw [if_neg h69, if_neg h80, if_pos h93]
          rw [kg_rdR, e9] at hQ
          exact cut102 q 0 nu (by omega) (by omega) hQ
        · have h93 : σ 132 q = be := h93
          refine k_iconst (1) dX7_reads_96 (by decide) ?_
          refine k_goto 101 dX7_reads_97 (by decide) ?_
          refine k_istore_n 3 (lv' := [(3, _), (2, _), (0, _), (1, _)]) dX7_reads_101 rfl (by decide) rfl ?_
          refine k_re [3, 0] (lv' := [(3, _), (0, _)]) rfl ?_
          have e9 : kg_rb σ len sp q be = 1 := by rw [kg_rb]; first | rw [if_pos h69] | rw [if_neg h69, if_pos h80] | rw [if_neg h69, if_neg h80, if_neg h93] | rw [if_neg h69, if_neg h80, if_pos h93]
          rw [kg_rdR, e9] at hQ
          exact cut102 q 1 nu (by omega) (by omega) hQ
  have lp10 : ∀ r9 : Nat, ∀ (q : Nat) (nu : Int32), sp ≤ q → q + r9 = sp + 5 → q ≤ len → Q (.inl (some (.int (nI (kg_rdR σ len sp be (kg_rdL σ len r9 q nu)).1)))) (kg_p σ (kg_rdR σ len sp be (kg_rdL σ len r9 q nu)).2.1 (kg_rdR σ len sp be (kg_rdL σ len r9 q nu)).2.2) τ z → kn_Go X MX7_reads 10 [(2, .int (nI sp)), (0, .ref 128), (1, .int be)] [] (kg_p σ q nu) τ z c n Q := by
    intro r9
    induction r9 with
    | zero =>
      intro q nu hqs hq5 hql hQ
      refine k_aload_n 0 dX7_reads_10 rfl rfl ?_
      refine k_getfieldV dX7_reads_11 hc_X7 hM.1.1 hM.1.2 7 (by decide) wF_X7_145 rfl ((rfl : _ = nI q)) ?_
      refine k_iload_n 2 dX7_reads_14 rfl rfl ?_
      refine k_isub dX7_reads_15 ?_
      rw [kg_sub hqs]
      refine k_iconst (5) dX7_reads_16 (by decide) ?_
      refine k_icmpge 64 dX7_reads_17 (by decide) (fun h17 => ?_) (fun h17 => ?_)
      · rw [kg_rdL] at hQ
        first
          | exact cut64 q nu hqs hql hQ
          | (rw [if_pos h24] at hQ; exact cut64 q nu hqs hql hQ)
      · exact absurd (show nI 5 ≤ nI (q - sp) from nI_le (by omega) (by omega)) h17
    | succ r9 ih =>
      intro q nu hqs hq5 hql hQ
      refine k_aload_n 0 dX7_reads_10 rfl rfl ?_
      refine k_getfieldV dX7_reads_11 hc_X7 hM.1.1 hM.1.2 7 (by decide) wF_X7_145 rfl ((rfl : _ = nI q)) ?_
      refine k_iload_n 2 dX7_reads_14 rfl rfl ?_
      refine k_isub dX7_reads_15 ?_
      rw [kg_sub hqs]
      refine k_iconst (5) dX7_reads_16 (by decide) ?_
      refine k_icmpge 64 dX7_reads_17 (by decide) (fun h17 => ?_) (fun h17 => ?_)
      · exact absurd h17 (nI_ge (b := 5) (by omega) (by decide))
      · refine k_aload_n 0 dX7_reads_20 rfl rfl ?_
        refine k_invV (As := []) dX7_reads_21 mm_X7_isDigit wL_X7_151 ⟨by decide, by decide⟩ hM.1.1 hM.1.2 rfl rfl (Nat.le_of_ble_eq_true rfl) (Nat.zero_le _) (Nat.zero_le _) (m_X7_isDigit (sp := q) (len := len) hM rfl hlen hl120 (by omega) ⟨rfl, ?_⟩)
        refine k_ifeq 64 dX7_reads_24 (by decide) (fun h24 => ?_) (fun h24 => ?_)
        · have h24 : kg_dig σ q len = 0 := h24
          rw [kg_rdL] at hQ
          first
            | exact cut64 q nu hqs hql hQ
            | (rw [if_pos h24] at hQ; exact cut64 q nu hqs hql hQ)
        · have h24 : ¬ kg_dig σ q len = 0 := h24
          have hlt := kg_dig_lt h24
          refine k_aload_n 0 dX7_reads_27 rfl rfl ?_
          refine k_bipush (10) dX7_reads_28 (by decide) ?_
          refine k_aload_n 0 dX7_reads_30 rfl rfl ?_
          refine k_getfieldV dX7_reads_31 hc_X7 hM.1.1 hM.1.2 8 (by decide) wF_X7_148 rfl ((rfl : _ = nu)) ?_
          refine k_imul dX7_reads_34 ?_
          refine k_aload_n 0 dX7_reads_35 rfl rfl ?_
          refine k_getfield dX7_reads_36 hc_X7 hM.1.1 hM.1.2 5 (by decide) wF_X7_19 rfl ?_
          refine k_aload_n 0 dX7_reads_39 rfl rfl ?_
          refine k_getfieldV dX7_reads_40 hc_X7 hM.1.1 hM.1.2 7 (by decide) wF_X7_145 rfl ((rfl : _ = nI q)) ?_
          refine k_ialoadN (q) dX7_reads_43 hM.2.2.2.2.1 hM.2.2.2.2.2 (rfl) (⟨by omega, by decide⟩) ?_
          refine k_iadd dX7_reads_44 ?_
          refine k_bipush (48) dX7_reads_45 (by decide) ?_
          refine k_isub dX7_reads_47 ?_
          refine k_putfield dX7_reads_48 hc_X7 hM.1.1 hM.1.2 8 (by decide) wF_X7_148 rfl rfl (t9 := .int) (by decide +kernel) rfl rfl ?_
          refine k_aload_n 0 dX7_reads_51 rfl rfl ?_
          refine k_dup dX7_reads_52 rfl ?_
          refine k_getfieldV dX7_reads_53 hc_X7 hM.1.1 hM.1.2 7 (by decide) wF_X7_145 rfl ((rfl : _ = nI q)) ?_
          refine k_iconst (1) dX7_reads_56 (by decide) ?_
          refine k_iadd dX7_reads_57 ?_
          rw [nI_1]
          refine k_putfield dX7_reads_58 hc_X7 hM.1.1 hM.1.2 7 (by decide) wF_X7_145 rfl rfl (t9 := .int) (by decide +kernel) rfl rfl ?_
          refine k_goto 10 dX7_reads_61 (by decide) ?_
          rw [kg_rdL, if_neg h24] at hQ
          rw [kg_p_p]
          exact ih (q + 1) _ (by omega) (by omega) (by omega) hQ
  refine k_aload_n 0 dX7_reads_0 rfl rfl ?_
  refine k_getfieldV dX7_reads_1 hc_X7 hM.1.1 hM.1.2 7 (by decide) wF_X7_145 rfl (hsp) ?_
  refine k_istore_n 2 (lv' := [(2, _), (0, _), (1, _)]) dX7_reads_4 rfl (by decide) rfl ?_
  refine k_aload_n 0 dX7_reads_5 rfl rfl ?_
  refine k_iconst (0) dX7_reads_6 (by decide) ?_
  refine k_putfield dX7_reads_7 hc_X7 hM.1.1 hM.1.2 8 (by decide) wF_X7_148 rfl rfl (t9 := .int) (by decide +kernel) rfl rfl ?_
  have e9 : kn_up σ 128 8 0 = kg_p σ sp 0 := (kn_up_id (s := kn_up σ 128 8 0) (b := 128) (k := 7) (x := nI sp) hsp).symm
  rw [e9]
  exact lp10 5 sp 0 (Nat.le_refl _) rfl hs hQ
