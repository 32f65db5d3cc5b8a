-- the model: its text
theorem k_getfieldV {X : kn_X} {M : kn_M} {pc : Nat} {lv : kn_L} {σ : kn_S} {τ : kn_T} {z : kn_Z} {c n : Nat} {Q : kn_Q} {st : List Value} {i idx ci N : Nat} {C : String} {T : u_T} {ty : Nat → FieldType} {ds : List (Option Value)} {v : Int32} (hd : decode M.2.1 pc = .ok (.getfield idx, 3)) (hc : kn_cf ci C T N ty) (hi : i < z.1) (hz : z.2 i = .inl (ci, ds)) (k : Nat) (hk : k < N) (hL : Cond.fieldLink M.1.cls idx (T k).1 (T k).2.1 (T k).2.2.1 ∈ kn_ws) (hdk : ds[k]? = some none) (hv : σ i k = v)
    (kk : kn_Go X M (pc + 3) lv (.int v :: st) σ τ z c n Q) : kn_Go X M pc lv (.ref i :: st) σ τ z c n Q :=
  k_getfield hd hc hi hz k hk hL hdk (by rw [kn_av, hv]; exact kk)
theorem kn_up_id {s : kn_S} {b k : Nat} {x : Int32} (h : s b k = x) : kn_up s b k x = s := by
  funext a j
  unfold kn_up
  split
  · rename_i q
    rw [q.1, q.2, h]
  · rfl
def kg_dig (s : kn_S) (sp len : Nat) : Int32 := if len ≤ sp then 0 else kf_within (s 132 sp) 48 57
/-- where the reading stands, and the number read -/
def kg_p (s : kn_S) (sp : Nat) (nu : Int32) : kn_S := kn_up (kn_up s 128 8 nu) 128 7 (nI sp)
theorem kg_p_p (s : kn_S) (sp : Nat) (nu nu2 x : Int32) : kn_up (kn_up (kg_p s sp nu) 128 8 nu2) 128 7 x = kn_up (kn_up s 128 8 nu2) 128 7 x := by
  funext a b
  unfold kg_p kn_up
  by_cases h1 : a = 128 ∧ b = 7
  · rw [if_pos h1, if_pos h1]
  · rw [if_neg h1, if_neg h1]
    by_cases h2 : a = 128 ∧ b = 8
    · simp only [if_pos h2, if_neg h1]
    · simp only [if_neg h2, if_neg h1]
theorem kg_p_s (s : kn_S) (sp sp2 : Nat) (nu : Int32) : kn_up (kg_p s sp nu) 128 7 (nI sp2) = kg_p s sp2 nu := by
  funext a b
  unfold kg_p kn_up
  by_cases h1 : a = 128 ∧ b = 7
  · rw [if_pos h1, if_pos h1]
  · rw [if_neg h1, if_neg h1, if_neg h1]
def kg_rdL (s : kn_S) (len : Nat) : Nat → Nat → Int32 → Nat × Int32
  | 0, sp, nu => (sp, nu)
  | r + 1, sp, nu => if kg_dig s sp len = 0 then (sp, nu) else kg_rdL s len r (sp + 1) (10 * nu + s 132 sp - 48)
def kg_rb (s : kn_S) (len first sp : Nat) (be : Int32) : Nat := if sp ≤ first then 0 else if len ≤ sp then 0 else if s 132 sp = be then 1 else 0
/-- a number and the byte behind it: whether they are there, where the reading stands, the number -/
def kg_rdR (s : kn_S) (len first : Nat) (be : Int32) (p : Nat × Int32) : Nat × Nat × Int32 := (kg_rb s len first p.1 be, p.1 + kg_rb s len first p.1 be, p.2)
def kg_rds (s : kn_S) (len sp : Nat) (be : Int32) : Nat × Nat × Int32 := kg_rdR s len sp be (kg_rdL s len 5 sp 0)
theorem kg_dig_lt {s : kn_S} {sp len : Nat} (h : ¬ kg_dig s sp len = 0) : sp < len := by
  unfold kg_dig at h
  rcases Nat.lt_or_ge sp len with q | q
  · exact q
  · rw [if_pos q] at h; exact absurd rfl h
theorem kg_rdL_le (s : kn_S) (len : Nat) : ∀ r sp nu, sp ≤ len → sp ≤ (kg_rdL s len r sp nu).1 ∧ (kg_rdL s len r sp nu).1 ≤ len
  | 0, sp, nu, h => ⟨Nat.le_refl _, h⟩
  | r + 1, sp, nu, h => by
    unfold kg_rdL
    split
    · exact ⟨Nat.le_refl _, h⟩
    · rename_i q
      have h1 := kg_dig_lt q
      have h2 := kg_rdL_le s len r (sp + 1) (10 * nu + s 132 sp - 48) (by omega)
      exact ⟨by omega, h2.2⟩
theorem kg_rb_le (s : kn_S) (len first sp : Nat) (be : Int32) : kg_rb s len first sp be ≤ 1 ∧ (kg_rb s len first sp be = 1 → first < sp ∧ sp < len) := by
  unfold kg_rb
  split
  · exact ⟨by omega, fun h => absurd h (by omega)⟩
  split
  · exact ⟨by omega, fun h => absurd h (by omega)⟩
  split
  · exact ⟨by omega, fun _ => ⟨by omega, by omega⟩⟩
  · exact ⟨by omega, fun h => absurd h (by omega)⟩
theorem kg_rds_le (s : kn_S) (len sp : Nat) (be : Int32) (h : sp ≤ len) : sp ≤ (kg_rds s len sp be).2.1 ∧ (kg_rds s len sp be).2.1 ≤ len ∧ (¬ (kg_rds s len sp be).1 = 0 → sp < (kg_rds s len sp be).2.1) := by
  have h1 := kg_rdL_le s len 5 sp 0 h
  have h2 := kg_rb_le s len sp (kg_rdL s len 5 sp 0).1 be
  dsimp only [kg_rds, kg_rdR]
  refine ⟨by omega, ?_, fun q => by have := h2.2 (by omega); omega⟩
  by_cases q : kg_rb s len sp (kg_rdL s len 5 sp 0).1 be = 1
  · have := h2.2 q; omega
  · omega
/-- a firing read: whether it is there, where the reading stands, the state behind it -/
def kg_rf (s : kn_S) (len sp : Nat) : Nat × Nat × kn_S :=
  if (kg_rds s len sp 32).1 = 0 then (0, (kg_rds s len sp 32).2.1, kg_p s (kg_rds s len sp 32).2.1 (kg_rds s len sp 32).2.2) else
  let s1 := kn_up (kg_p s (kg_rds s len sp 32).2.1 (kg_rds s len sp 32).2.2) 128 9 (kg_rds s len sp 32).2.2
  let a := (kg_rds s len sp 32).2.1
  if (kg_rds s1 len a 32).1 = 0 then (0, (kg_rds s1 len a 32).2.1, kg_p s1 (kg_rds s1 len a 32).2.1 (kg_rds s1 len a 32).2.2) else
  let s2 := kn_up (kg_p s1 (kg_rds s1 len a 32).2.1 (kg_rds s1 len a 32).2.2) 128 10 (kg_rds s1 len a 32).2.2
  let b := (kg_rds s1 len a 32).2.1
  ((kg_rds s2 len b 59).1, (kg_rds s2 len b 59).2.1, kn_up (kg_p s2 (kg_rds s2 len b 59).2.1 (kg_rds s2 len b 59).2.2) 128 11 (kg_rds s2 len b 59).2.2)
theorem kg_rds_2 (s : kn_S) (len sp : Nat) (be : Int32) : kg_rds s len sp be = ((kg_rds s len sp be).1, (kg_rds s len sp be).2.1, (kg_rds s len sp be).2.2) := rfl

theorem kg_sub {a b : Nat} (h : b ≤ a) : nI a - nI b = nI (a - b) := by
  have e : nI a = nI (a - b) + nI b := by rw [nI_add]; congr 1; omega
  rw [e, Int32.add_sub_cancel]
