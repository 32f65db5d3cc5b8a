-- the face: the model, the text, undo
theorem kf_lower_ne (s : kn_S) {b b' : Nat} (c : Int32) (h : b' ≠ b + 4) : kf_lower s b c b' = s b' := by
  unfold kf_lower
  split
  · rfl
  · exact kf_put_ne _ _ _ _ h
theorem kf_watch_ne (s : kn_S) {b b' : Nat} (e : Int32) (h : b' < b ∨ b + 20 ≤ b') : kf_watch s b e b' = s b' := by
  have hw1 : kf_w1 s b e b' = s b' := by
    unfold kf_w1
    split
    · dsimp only; rw [kn_up_ne _ _ _ (by omega), kn_up_ne _ _ _ (by omega)]
    · dsimp only; rw [kn_up_ne _ _ _ (by omega), kn_up_ne _ _ _ (by omega)]
  have hw3 : ∀ t : kn_S, kf_w3 t b b' = t b' := by
    intro t
    unfold kf_w3
    split
    · rfl
    split
    · rfl
    · dsimp only; rw [kf_note_ne _ _ _ _ (by omega) (by omega) (by omega) (by omega), kn_up_ne _ _ _ (by omega)]
  unfold kf_watch kf_w2
  split
  · split
    · rw [hw3, hw1]
    · dsimp only; rw [kf_note_ne _ _ _ _ (by omega) (by omega) (by omega) (by omega), kn_up_ne _ _ _ (by omega), hw1]
  · rw [hw3, hw1]
theorem kf_listen_ne (s : kn_S) {b b' : Nat} (c cell e : Int32) (h : b' < b ∨ b + 20 ≤ b') : kf_listen s b c cell e b' = s b' := by
  unfold kf_listen
  split
  · dsimp only [kf_listenQ]
    split
    · rw [kf_put_ne _ _ _ _ (by omega), kf_put_ne _ _ _ _ (by omega)]
    · rw [kf_lower_ne _ _ (by omega), kf_put_ne _ _ _ _ (by omega), kf_put_ne _ _ _ _ (by omega), kf_put_ne _ _ _ _ (by omega)]
  · dsimp only [kf_listenK, kf_rfast]
    rw [kf_note_ne _ _ _ _ (by omega) (by omega) (by omega) (by omega), kf_put_ne _ _ _ _ (by omega), kf_put_ne _ _ _ _ (by omega), kf_put_ne _ _ _ _ (by omega)]
theorem kf_learn_ne (s : kn_S) {b b' : Nat} (m : Nat) (cell : Int32) (h : b' < b ∨ b + 20 ≤ b') : kf_learn s b m cell b' = s b' := by
  have hL : ∀ mean, kf_learnL s b cell mean b' = s b' := by
    intro mean
    unfold kf_learnL
    split
    · rfl
    split
    · rfl
    · dsimp only [kf_learnDn]
      rw [kf_note_ne _ _ _ _ (by omega) (by omega) (by omega) (by omega), kf_put_ne _ _ _ _ (by omega)]
  have hM : ∀ mean, kf_learnM s b m cell mean b' = s b' := by
    intro mean
    unfold kf_learnM
    split
    · exact hL mean
    split
    · exact hL mean
    · dsimp only [kf_learnUp]
      rw [kf_note_ne _ _ _ _ (by omega) (by omega) (by omega) (by omega), kf_mapA_ne _ _ _ (by omega), kf_put_ne _ _ _ _ (by omega)]
  unfold kf_learn
  split
  · rfl
  split
  · rfl
  split
  · exact hM _
  · rfl
theorem kf_treat_ne (s : kn_S) {b b' : Nat} (m : Nat) (x y e : Int32) (h : b' < b ∨ b + 20 ≤ b') : kf_treat s b m x y e b' = s b' := by
  have hF : ∀ t : kn_S, kf_trF t b b' = t b' := by
    intro t
    dsimp only [kf_trF]
    rw [kn_up_ne _ _ _ (by omega), kn_up_ne _ _ _ (by omega)]
  have hA : ∀ c, kf_trA s b c e b' = s b' := by
    intro c
    dsimp only [kf_trA]
    rw [kn_up_ne _ _ _ (by omega), kn_up_ne _ _ _ (by omega), kf_watch_ne _ _ h]
  unfold kf_treat kf_trB
  split
  · unfold kf_keep
    rw [hF, kf_learn_ne _ _ _ h, kf_mapA_ne _ _ _ (by omega), kf_listen_ne _ _ _ _ h, hA]
  · rw [hF, hA]
theorem kf_mod_ne (s : kn_S) {b b' : Nat} (m : Nat) (x y w : Int32) (h : b' < b ∨ b + 20 ≤ b') : kf_mod s b m x y w b' = s b' := by
  unfold kf_mod
  rw [kf_treat_ne _ _ _ _ _ h]
  exact kn_up_ne _ _ _ (by omega)
theorem kf_cpySt_7 {z : kn_Z} {b b2 : Nat} (h : kn_isSt z b) (h2 : kn_isSt z b2) (s : kn_S) : kf_cpySt s b b2 b 7 = s b2 7 := by
  simp only [kf_cpySt, kf_cs3, kf_cs2]
  simp [kn_up]
  exact kf_cs1_at h h2 s 7
def kf_qa (m : Nat) (x y w want : Int32) : Nat → Nat → kn_S → Int32 → Int32 × kn_S
  | 0, _, s, _ => (-1, s)
  | r + 1, t, s, q => if (if kf_mo s 21 x y w = 1 then 0 else q + 1) < want then kf_qa m x y w want r (t + 1) (kf_mod s 21 m x y w) (if kf_mo s 21 x y w = 1 then 0 else q + 1) else (nI t, kf_mod s 21 m x y w)
def kf_sqL (m : Nat) (x y w : Int32) : Nat → kn_S → Int32 × kn_S
  | 0, s => (1, s)
  | r + 1, s => if kf_mo s 21 x y w = 1 then (0, kf_mod s 21 m x y w) else kf_sqL m x y w r (kf_mod s 21 m x y w)
theorem kf_sqL_ne (m : Nat) (x y w : Int32) {b' : Nat} (h : b' < 21 ∨ 41 ≤ b') : ∀ (r : Nat) (s : kn_S), (kf_sqL m x y w r s).2 b' = s b'
  | 0, _ => rfl
  | r + 1, s => by
    unfold kf_sqL
    split
    · exact kf_mod_ne s m x y w (by omega)
    · rw [kf_sqL_ne m x y w h r]
      exact kf_mod_ne s m x y w (by omega)
theorem kf_sqL_01 (m : Nat) (x y w : Int32) : ∀ (r : Nat) (s : kn_S), (kf_sqL m x y w r s).1 = 0 ∨ (kf_sqL m x y w r s).1 = 1
  | 0, _ => Or.inr rfl
  | r + 1, s => by
    unfold kf_sqL
    split
    · exact Or.inl rfl
    · exact kf_sqL_01 m x y w r _
def kf_low (m cnt : Nat) (x y : Int32) : Nat → Nat → kn_S → Int32 × kn_S
  | 0, _, s => (-1, s)
  | r + 1, oc, s => if (kf_sqL m x y (nI oc) cnt (kf_cpySt s 21 1)).1 = 0 then kf_low m cnt x y r (oc + 1) (kf_sqL m x y (nI oc) cnt (kf_cpySt s 21 1)).2 else (nI oc, (kf_sqL m x y (nI oc) cnt (kf_cpySt s 21 1)).2)
def kf_evs (s : kn_S) (x : Int32) : Nat → Int32
  | 0 => 0
  | j + 1 => if kf_about s 14 (nI j) 0 = x then kf_evs s x j + 1 else kf_evs s x j
def kf_oct (f : Nat → Int32) (x : Int32) : Nat → Int32 × Int32
  | 0 => (0, 0)
  | j + 1 => if kf_at f 24 (4 * nI j + x) ≤ 0 then kf_oct f x j else ((kf_oct f x j).1 + kf_at f 24 (4 * nI j + x), (kf_oct f x j).2 + 1)
def kf_ext (f : Nat → Int32) (first stride g : Int32) : Nat → Int32
  | 0 => kf_at f 24 first
  | j + 1 => if g = 0 then kf_min (kf_ext f first stride g j) (kf_at f 24 (first + nI (j + 1) * stride)) else kf_max (kf_ext f first stride g j) (kf_at f 24 (first + nI (j + 1) * stride))
def kf_fw (s : kn_S) : Nat → Nat → Int32
  | 0, _ => -1
  | r + 1, j => if kf_isFir (kf_numb s 123 (nI j) 0) (kf_numb s 123 (nI j) 1) (kf_numb s 123 (nI j) 2) = 0 then nI j else kf_fw s r (j + 1)
def kf_rep (m : Nat) (s : kn_S) : Nat → kn_S
  | 0 => s
  | j + 1 => kf_treat (kf_rep m s j) 1 m (kf_numb (kf_rep m s j) 123 (nI j) 0) (kf_numb (kf_rep m s j) 123 (nI j) 1) (kf_numb (kf_rep m s j) 123 (nI j) 2)
theorem kf_rep_ne (m : Nat) (s : kn_S) {b' : Nat} (h : b' < 1 ∨ 21 ≤ b') : ∀ j, kf_rep m s j b' = s b'
  | 0 => rfl
  | j + 1 => by
    show kf_treat (kf_rep m s j) 1 m _ _ _ b' = s b'
    rw [kf_treat_ne _ _ _ _ _ (by omega), kf_rep_ne m s h j]
theorem kf_rep_7 (m : Nat) (s : kn_S) : ∀ j, kf_rep m s j 1 7 = s 1 7
  | 0 => rfl
  | j + 1 => by
    show kf_treat (kf_rep m s j) 1 m _ _ _ 1 7 = s 1 7
    rw [kf_treat_7, kf_rep_7 m s j]
theorem kf_rstep_ne {s s1 : kn_S} {t : Nat} {ch dg nu dg1 nu1 : Int32} {b' : Nat} (h0 : b' ≠ t) (h4 : b' ≠ t + 4) (h : kf_rstep s t ch dg nu = some (s1, dg1, nu1)) : s1 b' = s b' := by
  have hs : kf_rsep s t ch dg nu = some (s1, dg1, nu1) → s1 b' = s b' := by
    intro h9
    unfold kf_rsep at h9
    split at h9
    · cases h9
    split at h9
    · cases h9
      rw [kn_up_ne _ _ _ h0, kf_put_ne _ _ _ _ h4]
    · cases h9
  unfold kf_rstep at h
  split at h
  · exact hs h
  split at h
  · exact hs h
  split at h
  · exact hs h
  · cases h; rfl
theorem kf_rd_ne {t : Nat} {b' : Nat} (h0 : b' ≠ t) (h4 : b' ≠ t + 4) : ∀ (r i : Nat) (s : kn_S) (dg nu : Int32), (kf_rd t r i s dg nu).2 b' = s b'
  | 0, _, _, _, _ => rfl
  | r + 1, i, s, dg, nu => by
    unfold kf_rd
    cases h : kf_rstep s t (kf_at (s (t + 2)) 120 (nI i)) dg nu with
    | none => rfl
    | some q =>
      obtain ⟨s1, dg1, nu1⟩ := q
      show (kf_rd t r (i + 1) s1 dg1 nu1).2 b' = s b'
      rw [kf_rd_ne h0 h4 r, kf_rstep_ne h0 h4 h]
theorem kf_read_ne (s : kn_S) (len : Nat) {b' : Nat} (h0 : b' ≠ 123) (h4 : b' ≠ 127) : (kf_read s 123 len).2 b' = s b' := by
  unfold kf_read
  rw [kf_rd_ne h0 h4, kn_up_ne _ _ _ h0]

set_option maxRecDepth 100000 in
set_option maxHeartbeats 4000000 in
theorem m_X6_limit {X : kn_X} {σ : kn_S} {τ : kn_T} {z : kn_Z} {c n : Nat} {Q : kn_Q} {x y w v : Int32} (hK : kn_isK z) (hQ1 : x = -1 → ¬ (kf_isDrv y w v) = 0 → Q (.inl (some (.int (kf_klim y w v)))) σ τ z) (hQ2 : ¬ x = -1 → ¬ (kf_isCyl σ x) = 0 → ¬ (kf_isDrv y w v) = 0 → Q (.inl (some (.int (kf_adv σ 1 x y w - kf_klim y w v)))) σ τ z) (hNp : ¬ x = -1 → (kf_isCyl σ x) = 0 → Q (.inr "java/lang/IndexOutOfBoundsException") σ τ z) (hN : (x = -1 ∨ ¬ (kf_isCyl σ x) = 0) → (kf_isDrv y w v) = 0 → Q (.inr "java/lang/IllegalArgumentException") σ τ z) : kn_Ev X MX6_limit [.ref 0, .int x, .int y, .int w, .int v] σ τ z (c + 2) (n + 12) Q := by
  refine kn_entry (by decide +kernel) rfl (Nat.le_of_ble_eq_true rfl) ?_
  show kn_Go X MX6_limit 0 [(0, .ref 0), (1, .int x), (2, .int y), (3, .int w), (4, .int v)] [] _ _ _ _ _ _
  refine k_iload_n 1 dX6_limit_0 rfl rfl ?_
  refine k_iconst (-1) dX6_limit_1 (by decide) ?_
  refine k_icmpeq 13 dX6_limit_2 (by decide) (fun h2 => ?_) (fun h2 => ?_)
  · refine k_iconst (1) dX6_limit_13 (by decide) ?_
    refine k_goto 18 dX6_limit_14 (by decide) ?_
    refine k_invS (As := [_]) dX6_limit_18 mm_X6_demandPlace wL_X6_77 ⟨by decide, by decide⟩ rfl rfl (Nat.le_of_ble_eq_true rfl) (c1 := 1) (n1 := 6) (by omega) (by omega) (m_X6_demandPlace (fun _ => ⟨rfl, ?_⟩) (fun hd9 => absurd hd9 (by decide)))
    refine k_iload_n 2 dX6_limit_21 rfl rfl ?_
    refine k_iload_n 3 dX6_limit_22 rfl rfl ?_
    refine k_iload dX6_limit_23 rfl ?_
    refine k_invS (As := [_, _, _]) dX6_limit_25 mm_X6_isDriving wL_X6_98 ⟨by decide, by decide⟩ rfl rfl (Nat.le_of_ble_eq_true rfl) (Nat.zero_le _) (Nat.zero_le _) (m_X6_isDriving ⟨rfl, ?_⟩)
    refine k_invS (As := [_]) dX6_limit_28 mm_X6_demand wL_X6_37 ⟨by decide, by decide⟩ rfl rfl (Nat.le_of_ble_eq_true rfl) (c1 := 1) (n1 := 6) (by omega) (by omega) (m_X6_demand (fun hd => ⟨rfl, ?_⟩) (fun hd => ⟨rfl, k_thOut rfl (hN (by first | exact Or.inl h2 | exact Or.inr h10) hd)⟩))
    refine k_iload_n 2 dX6_limit_31 rfl rfl ?_
    refine k_iload_n 3 dX6_limit_32 rfl rfl ?_
    refine k_iload dX6_limit_33 rfl ?_
    refine k_invS (As := [_, _, _]) dX6_limit_35 mm_X0_knockLimit wL_X6_170 ⟨by decide, by decide⟩ rfl rfl (Nat.le_of_ble_eq_true rfl) (Nat.zero_le _) (Nat.zero_le _) (m_X0_knockLimit ⟨rfl, ?_⟩)
    refine k_istore (lv' := [(5, _), (0, _), (1, _), (2, _), (3, _), (4, _)]) dX6_limit_38 (by decide) rfl ?_
    refine k_iload_n 1 dX6_limit_40 rfl rfl ?_
    refine k_iconst (-1) dX6_limit_41 (by decide) ?_
    refine k_icmpne 48 dX6_limit_42 (by decide) (fun h42 => ?_) (fun h42 => ?_)
    · refine k_aload_n 0 dX6_limit_48 rfl rfl ?_
      refine k_getfield dX6_limit_49 hc_X6 hK.1.1 hK.1.2 0 (by decide) wF_X6_12 rfl ?_
      refine k_iload_n 1 dX6_limit_52 rfl rfl ?_
      refine k_iload_n 2 dX6_limit_53 rfl rfl ?_
      refine k_iload_n 3 dX6_limit_54 rfl rfl ?_
      refine k_invV (As := [_, _, _]) dX6_limit_55 mm_X5_advanceOf wL_X6_118 ⟨by decide, by decide⟩ hK.2.1.1.1 hK.2.1.1.2 rfl rfl (Nat.le_of_ble_eq_true rfl) (Nat.zero_le _) (Nat.zero_le _) (m_X5_advanceOf hK.2.1 ⟨rfl, ?_⟩)
      refine k_iload dX6_limit_58 rfl ?_
      refine k_isub dX6_limit_60 ?_
      refine k_iret dX6_limit_61 rfl (rfl) ?_
      first
        | exact absurd h2 h42
        | exact absurd h42 h2
        | exact hQ1 h2 hd
        | exact hQ2 h2 h10 hd
    · refine k_iload dX6_limit_45 rfl ?_
      refine k_iret dX6_limit_47 rfl (rfl) ?_
      first
        | exact absurd h2 h42
        | exact absurd h42 h2
        | exact hQ1 h2 hd
        | exact hQ2 h2 h10 hd
  · refine k_aload_n 0 dX6_limit_5 rfl rfl ?_
    refine k_iload_n 1 dX6_limit_6 rfl rfl ?_
    refine k_invV (As := [_]) dX6_limit_7 mm_X6_isCylinder wL_X6_107 ⟨by decide, by decide⟩ hK.1.1 hK.1.2 rfl rfl (Nat.le_of_ble_eq_true rfl) (Nat.zero_le _) (Nat.zero_le _) (m_X6_isCylinder hK ⟨rfl, ?_⟩)
    refine k_ifeq 17 dX6_limit_10 (by decide) (fun h10 => ?_) (fun h10 => ?_)
    · refine k_iconst (0) dX6_limit_17 (by decide) ?_
      refine k_invS (As := [_]) dX6_limit_18 mm_X6_demandPlace wL_X6_77 ⟨by decide, by decide⟩ rfl rfl (Nat.le_of_ble_eq_true rfl) (c1 := 1) (n1 := 6) (by omega) (by omega) (m_X6_demandPlace (fun hd9 => absurd rfl hd9) (fun _ => ⟨rfl, k_thOut rfl ?_⟩))
      exact hNp h2 h10
    · refine k_iconst (1) dX6_limit_13 (by decide) ?_
      refine k_goto 18 dX6_limit_14 (by decide) ?_
      refine k_invS (As := [_]) dX6_limit_18 mm_X6_demandPlace wL_X6_77 ⟨by decide, by decide⟩ rfl rfl (Nat.le_of_ble_eq_true rfl) (c1 := 1) (n1 := 6) (by omega) (by omega) (m_X6_demandPlace (fun _ => ⟨rfl, ?_⟩) (fun hd9 => absurd hd9 (by decide)))
      refine k_iload_n 2 dX6_limit_21 rfl rfl ?_
      refine k_iload_n 3 dX6_limit_22 rfl rfl ?_
      refine k_iload dX6_limit_23 rfl ?_
      refine k_invS (As := [_, _, _]) dX6_limit_25 mm_X6_isDriving wL_X6_98 ⟨by decide, by decide⟩ rfl rfl (Nat.le_of_ble_eq_true rfl) (Nat.zero_le _) (Nat.zero_le _) (m_X6_isDriving ⟨rfl, ?_⟩)
      refine k_invS (As := [_]) dX6_limit_28 mm_X6_demand wL_X6_37 ⟨by decide, by decide⟩ rfl rfl (Nat.le_of_ble_eq_true rfl) (c1 := 1) (n1 := 6) (by omega) (by omega) (m_X6_demand (fun hd => ⟨rfl, ?_⟩) (fun hd => ⟨rfl, k_thOut rfl (hN (by first | exact Or.inl h2 | exact Or.inr h10) hd)⟩))
      refine k_iload_n 2 dX6_limit_31 rfl rfl ?_
      refine k_iload_n 3 dX6_limit_32 rfl rfl ?_
      refine k_iload dX6_limit_33 rfl ?_
      refine k_invS (As := [_, _, _]) dX6_limit_35 mm_X0_knockLimit wL_X6_170 ⟨by decide, by decide⟩ rfl rfl (Nat.le_of_ble_eq_true rfl) (Nat.zero_le _) (Nat.zero_le _) (m_X0_knockLimit ⟨rfl, ?_⟩)
      refine k_istore (lv' := [(5, _), (0, _), (1, _), (2, _), (3, _), (4, _)]) dX6_limit_38 (by decide) rfl ?_
      refine k_iload_n 1 dX6_limit_40 rfl rfl ?_
      refine k_iconst (-1) dX6_limit_41 (by decide) ?_
      refine k_icmpne 48 dX6_limit_42 (by decide) (fun h42 => ?_) (fun h42 => ?_)
      · refine k_aload_n 0 dX6_limit_48 rfl rfl ?_
        refine k_getfield dX6_limit_49 hc_X6 hK.1.1 hK.1.2 0 (by decide) wF_X6_12 rfl ?_
        refine k_iload_n 1 dX6_limit_52 rfl rfl ?_
        refine k_iload_n 2 dX6_limit_53 rfl rfl ?_
        refine k_iload_n 3 dX6_limit_54 rfl rfl ?_
        refine k_invV (As := [_, _, _]) dX6_limit_55 mm_X5_advanceOf wL_X6_118 ⟨by decide, by decide⟩ hK.2.1.1.1 hK.2.1.1.2 rfl rfl (Nat.le_of_ble_eq_true rfl) (Nat.zero_le _) (Nat.zero_le _) (m_X5_advanceOf hK.2.1 ⟨rfl, ?_⟩)
        refine k_iload dX6_limit_58 rfl ?_
        refine k_isub dX6_limit_60 ?_
        refine k_iret dX6_limit_61 rfl (rfl) ?_
        first
          | exact absurd h2 h42
          | exact absurd h42 h2
          | exact hQ1 h2 hd
          | exact hQ2 h2 h10 hd
      · refine k_iload dX6_limit_45 rfl ?_
        refine k_iret dX6_limit_47 rfl (rfl) ?_
        first
          | exact absurd h2 h42
          | exact absurd h42 h2
          | exact hQ1 h2 hd
          | exact hQ2 h2 h10 hd

set_option maxRecDepth 100000 in
set_option maxHeartbeats 4000000 in
theorem m_X6_quietAfter {X : kn_X} {σ : kn_S} {τ : kn_T} {z : kn_Z} {c n : Nat} {Q : kn_Q} {m o k len : Nat} {x y w : Int32} (hK : kn_isK z) (hI : kn_I σ m o k len) (hQ : ¬ (kf_isDrv x y w) = 0 → Q (.inl (some (.int ((kf_qa m x y w (5 * (kf_cpySt σ 21 1) 1 7) 1000 1 (kf_cpySt σ 21 1) 0).1)))) (kf_qa m x y w (5 * (kf_cpySt σ 21 1) 1 7) 1000 1 (kf_cpySt σ 21 1) 0).2 τ z) (hN : (kf_isDrv x y w) = 0 → Q (.inr "java/lang/IllegalArgumentException") σ τ z) : kn_Ev X MX6_quietAfter [.ref 0, .int x, .int y, .int w] σ τ z (c + 1) (n + 6) Q := by
  obtain ⟨⟨hcy, hm⟩, ⟨ho, ho4, hk, hk4⟩, ⟨hlen, hl120⟩, hbs, hb1, hb2⟩ := hI
  refine kn_entry (by decide +kernel) rfl (Nat.le_of_ble_eq_true rfl) ?_
  show kn_Go X MX6_quietAfter 0 [(0, .ref 0), (1, .int x), (2, .int y), (3, .int w)] [] _ _ _ _ _ _
  have lp37 : ∀ r9 : Nat, ∀ (t : Nat) (s9 : kn_S) (q9 : Int32), s9 21 7 = nI m → t + r9 = 1001 → Q (.inl (some (.int (kf_qa m x y w (5 * (kf_cpySt σ 21 1) 1 7) r9 t s9 q9).1))) (kf_qa m x y w (5 * (kf_cpySt σ 21 1) 1 7) r9 t s9 q9).2 τ z → kn_Go X MX6_quietAfter 37 [(6, .int (nI t)), (5, .int q9), (4, .int (5 * (kf_cpySt σ 21 1) 1 7)), (0, .ref 0), (1, .int x), (2, .int y), (3, .int w)] [] s9 τ z c n Q := by
    intro r9
    induction r9 with
    | zero =>
      intro t s9 q9 h7 ht hQ
      refine k_iload dX6_quietAfter_37 rfl ?_
      refine k_sipush (1000) dX6_quietAfter_39 (by decide) ?_
      refine k_icmpgt 85 dX6_quietAfter_42 (by decide) (fun h42 => ?_) (fun h42 => ?_)
      · refine k_iconst (-1) dX6_quietAfter_85 (by decide) ?_
        refine k_iret dX6_quietAfter_86 rfl (rfl) ?_
        exact hQ
      · exact absurd (show (1000 : Int32) < nI t from by rw [show t = 1001 by omega]; decide) h42
    | succ r9 ih =>
      intro t s9 q9 h7 ht hQ
      refine k_iload dX6_quietAfter_37 rfl ?_
      refine k_sipush (1000) dX6_quietAfter_39 (by decide) ?_
      refine k_icmpgt 85 dX6_quietAfter_42 (by decide) (fun h42 => ?_) (fun h42 => ?_)
      · exact absurd h42 (show ¬ (nI 1000) < nI t from nI_nlt (by omega) (by omega))
      · refine k_aload_n 0 dX6_quietAfter_45 rfl rfl ?_
        refine k_getfield dX6_quietAfter_46 hc_X6 hK.1.1 hK.1.2 1 (by decide) wF_X6_16 rfl ?_
        refine k_iload_n 1 dX6_quietAfter_49 rfl rfl ?_
        refine k_iload_n 2 dX6_quietAfter_50 rfl rfl ?_
        refine k_iload_n 3 dX6_quietAfter_51 rfl rfl ?_
        refine k_invV (As := [_, _, _]) dX6_quietAfter_52 mm_X5_treatModelled wL_X6_101 ⟨by decide, by decide⟩ hK.2.2.1.1.1 hK.2.2.1.1.2 rfl rfl (Nat.le_of_ble_eq_true rfl) (Nat.zero_le _) (Nat.zero_le _) (m_X5_treatModelled (m := m) hK.2.2.1 h7 hm ⟨rfl, ?_⟩)
        refine k_iconst (1) dX6_quietAfter_55 (by decide) ?_
        refine k_icmpne 63 dX6_quietAfter_56 (by decide) (fun h56 => ?_) (fun h56 => ?_)
        · refine k_iload dX6_quietAfter_63 rfl ?_
          refine k_iconst (1) dX6_quietAfter_65 (by decide) ?_
          refine k_iadd dX6_quietAfter_66 ?_
          refine k_istore (lv' := [(5, _), (6, _), (4, _), (0, _), (1, _), (2, _), (3, _)]) dX6_quietAfter_67 (by decide) rfl ?_
          refine k_iload dX6_quietAfter_69 rfl ?_
          refine k_iload dX6_quietAfter_71 rfl ?_
          refine k_icmplt 79 dX6_quietAfter_73 (by decide) (fun h73 => ?_) (fun h73 => ?_)
          · refine k_iinc (nI (t + 1)) (lv' := [(6, _), (5, _), (4, _), (0, _), (1, _), (2, _), (3, _)]) dX6_quietAfter_79 rfl (kn_inc t) (by decide) rfl ?_
            refine k_goto 37 dX6_quietAfter_82 (by decide) ?_
            dsimp only [kf_qa] at hQ
            rw [if_neg h56, if_pos h73] at hQ
            exact ih (t + 1) _ _ (by rw [kf_mod_7]; exact h7) (by omega) hQ
          · refine k_iload dX6_quietAfter_76 rfl ?_
            refine k_iret dX6_quietAfter_78 rfl (rfl) ?_
            dsimp only [kf_qa] at hQ
            rw [if_neg h56, if_neg h73] at hQ
            exact hQ
        · refine k_iconst (0) dX6_quietAfter_59 (by decide) ?_
          refine k_goto 67 dX6_quietAfter_60 (by decide) ?_
          refine k_istore (lv' := [(5, _), (6, _), (4, _), (0, _), (1, _), (2, _), (3, _)]) dX6_quietAfter_67 (by decide) rfl ?_
          refine k_iload dX6_quietAfter_69 rfl ?_
          refine k_iload dX6_quietAfter_71 rfl ?_
          refine k_icmplt 79 dX6_quietAfter_73 (by decide) (fun h73 => ?_) (fun h73 => ?_)
          · refine k_iinc (nI (t + 1)) (lv' := [(6, _), (5, _), (4, _), (0, _), (1, _), (2, _), (3, _)]) dX6_quietAfter_79 rfl (kn_inc t) (by decide) rfl ?_
            refine k_goto 37 dX6_quietAfter_82 (by decide) ?_
            dsimp only [kf_qa] at hQ
            rw [if_pos h56, if_pos h73] at hQ
            exact ih (t + 1) _ _ (by rw [kf_mod_7]; exact h7) (by omega) hQ
          · refine k_iload dX6_quietAfter_76 rfl ?_
            refine k_iret dX6_quietAfter_78 rfl (rfl) ?_
            dsimp only [kf_qa] at hQ
            rw [if_pos h56, if_neg h73] at hQ
            exact hQ
  refine k_iload_n 1 dX6_quietAfter_0 rfl rfl ?_
  refine k_iload_n 2 dX6_quietAfter_1 rfl rfl ?_
  refine k_iload_n 3 dX6_quietAfter_2 rfl rfl ?_
  refine k_invS (As := [_, _, _]) dX6_quietAfter_3 mm_X6_isDriving wL_X6_98 ⟨by decide, by decide⟩ rfl rfl (Nat.le_of_ble_eq_true rfl) (Nat.zero_le _) (Nat.zero_le _) (m_X6_isDriving ⟨rfl, ?_⟩)
  refine k_invS (As := [_]) dX6_quietAfter_6 mm_X6_demand wL_X6_37 ⟨by decide, by decide⟩ rfl rfl (Nat.le_of_ble_eq_true rfl) (c1 := 1) (n1 := 6) (by omega) (by omega) (m_X6_demand (fun hd => ⟨rfl, ?_⟩) (fun hd => ⟨rfl, k_thOut rfl (hN hd)⟩))
  refine k_aload_n 0 dX6_quietAfter_9 rfl rfl ?_
  refine k_getfield dX6_quietAfter_10 hc_X6 hK.1.1 hK.1.2 1 (by decide) wF_X6_16 rfl ?_
  refine k_aload_n 0 dX6_quietAfter_13 rfl rfl ?_
  refine k_getfield dX6_quietAfter_14 hc_X6 hK.1.1 hK.1.2 0 (by decide) wF_X6_12 rfl ?_
  refine k_invV (As := [_]) dX6_quietAfter_17 mm_X5_copy wL_X6_173 ⟨by decide, by decide⟩ hK.2.2.1.1.1 hK.2.2.1.1.2 rfl rfl (Nat.le_of_ble_eq_true rfl) (Nat.zero_le _) (Nat.zero_le _) (m_X5_copy hK.2.2.1 hK.2.1 hb1 hb2 ⟨rfl, ?_⟩)
  refine k_iconst (5) dX6_quietAfter_20 (by decide) ?_
  refine k_aload_n 0 dX6_quietAfter_21 rfl rfl ?_
  refine k_getfield dX6_quietAfter_22 hc_X6 hK.1.1 hK.1.2 0 (by decide) wF_X6_12 rfl ?_
  refine k_getfieldN dX6_quietAfter_25 hc_X5 hK.2.1.1.1 hK.2.1.1.2 7 (by decide) wNF_X6_176 rfl ?_
  refine k_imul dX6_quietAfter_28 ?_
  refine k_istore (lv' := [(4, _), (0, _), (1, _), (2, _), (3, _)]) dX6_quietAfter_29 (by decide) rfl ?_
  refine k_iconst (0) dX6_quietAfter_31 (by decide) ?_
  refine k_istore (lv' := [(5, _), (4, _), (0, _), (1, _), (2, _), (3, _)]) dX6_quietAfter_32 (by decide) rfl ?_
  refine k_iconst (1) dX6_quietAfter_34 (by decide) ?_
  refine k_istore (lv' := [(6, _), (5, _), (4, _), (0, _), (1, _), (2, _), (3, _)]) dX6_quietAfter_35 (by decide) rfl ?_
  exact lp37 1000 1 _ _ ((kf_cpySt_7 hK.2.2.1 hK.2.1 σ).trans hcy) (by omega) (hQ hd)

set_option maxRecDepth 100000 in
set_option maxHeartbeats 4000000 in
theorem m_X6_staysQuiet {X : kn_X} {σ : kn_S} {τ : kn_T} {z : kn_Z} {c n : Nat} {Q : kn_Q} {m cnt : Nat} {x y w : Int32} (hK : kn_isK z) (hcy : σ 1 7 = nI m) (hm : 1 ≤ m ∧ m ≤ 8) (hb1 : kn_01 (σ 1 12)) (hb2 : kn_01 (σ 1 16)) (hcnt : cnt ≤ 100) (hQ : Q (.inl (some (.int (kf_sqL m x y w cnt (kf_cpySt σ 21 1)).1))) (kf_sqL m x y w cnt (kf_cpySt σ 21 1)).2 τ z) : kn_Ev X MX6_staysQuiet [.ref 0, .int x, .int y, .int w, .int (nI cnt)] σ τ z c n Q := by
  refine kn_entry (by decide +kernel) rfl (Nat.le_of_ble_eq_true rfl) ?_
  show kn_Go X MX6_staysQuiet 0 [(0, .ref 0), (1, .int x), (2, .int y), (3, .int w), (4, .int (nI cnt))] [] _ _ _ _ _ _
  have lp14 : ∀ r9 : Nat, ∀ (j : Nat) (s9 : kn_S), s9 21 7 = nI m → j + r9 = cnt → Q (.inl (some (.int (kf_sqL m x y w r9 s9).1))) (kf_sqL m x y w r9 s9).2 τ z → kn_Go X MX6_staysQuiet 14 [(5, .int (nI j)), (0, .ref 0), (1, .int x), (2, .int y), (3, .int w), (4, .int (nI cnt))] [] s9 τ z c n Q := by
    intro r9
    induction r9 with
    | zero =>
      intro j s9 h7 hj hQ
      refine k_iload dX6_staysQuiet_14 rfl ?_
      refine k_iload dX6_staysQuiet_16 rfl ?_
      refine k_icmpge 43 dX6_staysQuiet_18 (by decide) (fun h18 => ?_) (fun h18 => ?_)
      · refine k_iconst (1) dX6_staysQuiet_43 (by decide) ?_
        refine k_iret dX6_staysQuiet_44 rfl (rfl) ?_
        exact hQ
      · exact absurd (nI_le (by omega) (by omega)) h18
    | succ r9 ih =>
      intro j s9 h7 hj hQ
      refine k_iload dX6_staysQuiet_14 rfl ?_
      refine k_iload dX6_staysQuiet_16 rfl ?_
      refine k_icmpge 43 dX6_staysQuiet_18 (by decide) (fun h18 => ?_) (fun h18 => ?_)
      · exact absurd h18 (nI_ge (by omega) (by omega))
      · refine k_aload_n 0 dX6_staysQuiet_21 rfl rfl ?_
        refine k_getfield dX6_staysQuiet_22 hc_X6 hK.1.1 hK.1.2 1 (by decide) wF_X6_16 rfl ?_
        refine k_iload_n 1 dX6_staysQuiet_25 rfl rfl ?_
        refine k_iload_n 2 dX6_staysQuiet_26 rfl rfl ?_
        refine k_iload_n 3 dX6_staysQuiet_27 rfl rfl ?_
        refine k_invV (As := [_, _, _]) dX6_staysQuiet_28 mm_X5_treatModelled wL_X6_101 ⟨by decide, by decide⟩ hK.2.2.1.1.1 hK.2.2.1.1.2 rfl rfl (Nat.le_of_ble_eq_true rfl) (Nat.zero_le _) (Nat.zero_le _) (m_X5_treatModelled (m := m) hK.2.2.1 h7 hm ⟨rfl, ?_⟩)
        refine k_iconst (1) dX6_staysQuiet_31 (by decide) ?_
        refine k_icmpne 37 dX6_staysQuiet_32 (by decide) (fun h32 => ?_) (fun h32 => ?_)
        · refine k_iinc (nI (j + 1)) (lv' := [(5, _), (0, _), (1, _), (2, _), (3, _), (4, _)]) dX6_staysQuiet_37 rfl (kn_inc j) (by decide) rfl ?_
          refine k_goto 14 dX6_staysQuiet_40 (by decide) ?_
          dsimp only [kf_sqL] at hQ
          rw [if_neg h32] at hQ
          exact ih (j + 1) _ (by rw [kf_mod_7]; exact h7) (by omega) hQ
        · refine k_iconst (0) dX6_staysQuiet_35 (by decide) ?_
          refine k_iret dX6_staysQuiet_36 rfl (rfl) ?_
          dsimp only [kf_sqL] at hQ
          rw [if_pos h32] at hQ
          exact hQ
  refine k_aload_n 0 dX6_staysQuiet_0 rfl rfl ?_
  refine k_getfield dX6_staysQuiet_1 hc_X6 hK.1.1 hK.1.2 1 (by decide) wF_X6_16 rfl ?_
  refine k_aload_n 0 dX6_staysQuiet_4 rfl rfl ?_
  refine k_getfield dX6_staysQuiet_5 hc_X6 hK.1.1 hK.1.2 0 (by decide) wF_X6_12 rfl ?_
  refine k_invV (As := [_]) dX6_staysQuiet_8 mm_X5_copy wL_X6_173 ⟨by decide, by decide⟩ hK.2.2.1.1.1 hK.2.2.1.1.2 rfl rfl (Nat.le_of_ble_eq_true rfl) (Nat.zero_le _) (Nat.zero_le _) (m_X5_copy hK.2.2.1 hK.2.1 hb1 hb2 ⟨rfl, ?_⟩)
  refine k_iconst (0) dX6_staysQuiet_11 (by decide) ?_
  refine k_istore (lv' := [(5, _), (0, _), (1, _), (2, _), (3, _), (4, _)]) dX6_staysQuiet_12 (by decide) rfl ?_
  exact lp14 cnt 0 _ ((kf_cpySt_7 hK.2.2.1 hK.2.1 σ).trans hcy) (by omega) hQ

set_option maxRecDepth 100000 in
set_option maxHeartbeats 4000000 in
theorem m_X6_lowestOctane {X : kn_X} {σ : kn_S} {τ : kn_T} {z : kn_Z} {c n : Nat} {Q : kn_Q} {m o k len : Nat} {x y v : Int32} (hK : kn_isK z) (hI : kn_I σ m o k len) (hQ : ∀ cnt : Nat, v = nI cnt → cnt ≤ 100 → ¬ (kf_and (kf_isOp x y) (kf_within v 1 100)) = 0 → Q (.inl (some (.int (kf_low m cnt x y 31 80 σ).1))) (kf_low m cnt x y 31 80 σ).2 τ z) (hN : (kf_and (kf_isOp x y) (kf_within v 1 100)) = 0 → Q (.inr "java/lang/IllegalArgumentException") σ τ z) : kn_Ev X MX6_lowestOctane [.ref 0, .int x, .int y, .int v] σ τ z (c + 1) (n + 6) Q := by
  obtain ⟨⟨hcy, hm⟩, ⟨ho, ho4, hk, hk4⟩, ⟨hlen, hl120⟩, hbs, hb1, hb2⟩ := hI
  refine kn_entry (by decide +kernel) rfl (Nat.le_of_ble_eq_true rfl) ?_
  show kn_Go X MX6_lowestOctane 0 [(0, .ref 0), (1, .int x), (2, .int y), (3, .int v)] [] _ _ _ _ _ _
  have lp30 : ∀ r9 : Nat, ∀ (cnt oc : Nat) (s9 : kn_S), cnt ≤ 100 → s9 1 = σ 1 → oc + r9 = 111 → Q (.inl (some (.int (kf_low m cnt x y r9 oc s9).1))) (kf_low m cnt x y r9 oc s9).2 τ z → kn_Go X MX6_lowestOctane 30 [(4, .int (nI oc)), (0, .ref 0), (1, .int x), (2, .int y), (3, .int (nI cnt))] [] s9 τ z c n Q := by
    intro r9
    induction r9 with
    | zero =>
      intro cnt oc s9 hcn h1 hoc hQ
      refine k_iload dX6_lowestOctane_30 rfl ?_
      refine k_bipush (110) dX6_lowestOctane_32 (by decide) ?_
      refine k_icmpgt 58 dX6_lowestOctane_34 (by decide) (fun h34 => ?_) (fun h34 => ?_)
      · refine k_iconst (-1) dX6_lowestOctane_58 (by decide) ?_
        refine k_iret dX6_lowestOctane_59 rfl (rfl) ?_
        exact hQ
      · exact absurd (show (110 : Int32) < nI oc from by rw [show oc = 111 by omega]; decide) h34
    | succ r9 ih =>
      intro cnt oc s9 hcn h1 hoc hQ
      refine k_iload dX6_lowestOctane_30 rfl ?_
      refine k_bipush (110) dX6_lowestOctane_32 (by decide) ?_
      refine k_icmpgt 58 dX6_lowestOctane_34 (by decide) (fun h34 => ?_) (fun h34 => ?_)
      · exact absurd h34 (show ¬ (nI 110) < nI oc from nI_nlt (by omega) (by omega))
      · refine k_aload_n 0 dX6_lowestOctane_37 rfl rfl ?_
        refine k_iload_n 1 dX6_lowestOctane_38 rfl rfl ?_
        refine k_iload_n 2 dX6_lowestOctane_39 rfl rfl ?_
        refine k_iload dX6_lowestOctane_40 rfl ?_
        refine k_iload_n 3 dX6_lowestOctane_42 rfl rfl ?_
        refine k_invV (As := [_, _, _, _]) dX6_lowestOctane_43 mm_X6_staysQuiet wL_X6_179 ⟨by decide, by decide⟩ hK.1.1 hK.1.2 rfl rfl (Nat.le_of_ble_eq_true rfl) (Nat.zero_le _) (Nat.zero_le _) (m_X6_staysQuiet (m := m) (cnt := cnt) hK (by rw [h1]; exact hcy) hm (by rw [h1]; exact hb1) (by rw [h1]; exact hb2) hcn ⟨rfl, ?_⟩)
        refine k_ifeq 52 dX6_lowestOctane_46 (by decide) (fun h46 => ?_) (fun h46 => ?_)
        · refine k_iinc (nI (oc + 1)) (lv' := [(4, _), (0, _), (1, _), (2, _), (3, _)]) dX6_lowestOctane_52 rfl (kn_inc oc) (by decide) rfl ?_
          refine k_goto 30 dX6_lowestOctane_55 (by decide) ?_
          dsimp only [kf_low] at hQ
          rw [if_pos h46] at hQ
          exact ih cnt (oc + 1) _ hcn (by rw [kf_sqL_ne _ _ _ _ (by omega), kf_cpySt_ne _ (by omega)]; exact h1) (by omega) hQ
        · refine k_iload dX6_lowestOctane_49 rfl ?_
          refine k_iret dX6_lowestOctane_51 rfl (rfl) ?_
          dsimp only [kf_low] at hQ
          rw [if_neg h46] at hQ
          exact hQ
  refine k_iload_n 1 dX6_lowestOctane_0 rfl rfl ?_
  refine k_iload_n 2 dX6_lowestOctane_1 rfl rfl ?_
  refine k_invS (As := [_, _]) dX6_lowestOctane_2 mm_X6_isOperation wL_X6_115 ⟨by decide, by decide⟩ rfl rfl (Nat.le_of_ble_eq_true rfl) (Nat.zero_le _) (Nat.zero_le _) (m_X6_isOperation ⟨rfl, ?_⟩)
  refine k_ifeq 22 dX6_lowestOctane_5 (by decide) (fun h5 => ?_) (fun h5 => ?_)
  · refine k_iconst (0) dX6_lowestOctane_22 (by decide) ?_
    refine k_invS (As := [_]) dX6_lowestOctane_23 mm_X6_demand wL_X6_37 ⟨by decide, by decide⟩ rfl rfl (Nat.le_of_ble_eq_true rfl) (c1 := 1) (n1 := 6) (by omega) (by omega) (m_X6_demand (fun hd9 => absurd rfl hd9) (fun _ => ⟨rfl, k_thOut rfl ?_⟩))
    exact hN (by rw [kf_and, if_pos h5])
  · refine k_iload_n 3 dX6_lowestOctane_8 rfl rfl ?_
    refine k_iconst (1) dX6_lowestOctane_9 (by decide) ?_
    refine k_bipush (100) dX6_lowestOctane_10 (by decide) ?_
    refine k_invS (As := [_, _, _]) dX6_lowestOctane_12 mm_X6_within wL_X6_33 ⟨by decide, by decide⟩ rfl rfl (Nat.le_of_ble_eq_true rfl) (Nat.zero_le _) (Nat.zero_le _) (m_X6_within ⟨rfl, ?_⟩)
    refine k_ifeq 22 dX6_lowestOctane_15 (by decide) (fun h15 => ?_) (fun h15 => ?_)
    · refine k_iconst (0) dX6_lowestOctane_22 (by decide) ?_
      refine k_invS (As := [_]) dX6_lowestOctane_23 mm_X6_demand wL_X6_37 ⟨by decide, by decide⟩ rfl rfl (Nat.le_of_ble_eq_true rfl) (c1 := 1) (n1 := 6) (by omega) (by omega) (m_X6_demand (fun hd9 => absurd rfl hd9) (fun _ => ⟨rfl, k_thOut rfl ?_⟩))
      exact hN (by rw [kf_and, if_neg h5, if_pos h15])
    · refine k_iconst (1) dX6_lowestOctane_18 (by decide) ?_
      refine k_goto 23 dX6_lowestOctane_19 (by decide) ?_
      refine k_invS (As := [_]) dX6_lowestOctane_23 mm_X6_demand wL_X6_37 ⟨by decide, by decide⟩ rfl rfl (Nat.le_of_ble_eq_true rfl) (c1 := 1) (n1 := 6) (by omega) (by omega) (m_X6_demand (fun _ => ⟨rfl, ?_⟩) (fun hd9 => absurd hd9 (by decide)))
      refine k_bipush (80) dX6_lowestOctane_26 (by decide) ?_
      refine k_istore (lv' := [(4, _), (0, _), (1, _), (2, _), (3, _)]) dX6_lowestOctane_28 (by decide) rfl ?_
      obtain ⟨cnt, hcnt, rfl⟩ : ∃ j, j ≤ 100 ∧ v = nI j := by
        unfold kf_within at h15
        by_cases h1 : v < 1
        · rw [if_pos h1] at h15; exact absurd rfl h15
        · rw [if_neg h1] at h15
          by_cases h2 : 100 < v
          · rw [if_pos h2] at h15; exact absurd rfl h15
          · have h3 : ¬ v < 0 := by intro h9; exact h1 (by rw [Int32.lt_iff_toInt_lt] at h9 ⊢; have : (1 : Int32).toInt = 1 := rfl; have : (0 : Int32).toInt = 0 := rfl; omega)
            obtain ⟨j, hj, rfl⟩ := nI_of h3
            refine ⟨j, ?_, rfl⟩
            rcases Nat.lt_or_ge 100 j with q | q
            · exact absurd (show nI 100 < nI j from nI_lt q hj) h2
            · exact q
      exact lp30 31 cnt 80 _ hcnt rfl (by omega) (hQ cnt rfl hcnt (by rw [kf_and, if_neg h5, if_neg h15]; decide))

set_option maxRecDepth 100000 in
set_option maxHeartbeats 4000000 in
theorem m_X6_eventsOf {X : kn_X} {σ : kn_S} {τ : kn_T} {z : kn_Z} {c n : Nat} {Q : kn_Q} {lc : Nat} {x : Int32} (hK : kn_isK z) (hlc : σ 14 4 = nI lc) (hlc60 : lc ≤ 60) (hQ : ¬ (kf_within x 0 4) = 0 → Q (.inl (some (.int (kf_evs σ x lc)))) σ τ z) (hN : (kf_within x 0 4) = 0 → Q (.inr "java/lang/IllegalArgumentException") σ τ z) : kn_Ev X MX6_eventsOf [.ref 0, .int x] σ τ z (c + 1) (n + 6) Q := by
  refine kn_entry (by decide +kernel) rfl (Nat.le_of_ble_eq_true rfl) ?_
  show kn_Go X MX6_eventsOf 0 [(0, .ref 0), (1, .int x)] [] _ _ _ _ _ _
  have lp13 : ∀ r9 : Nat, ∀ j : Nat, Q (.inl (some (.int (kf_evs σ x lc)))) σ τ z → j ≤ lc → lc + 1 ≤ j + r9 → kn_Go X MX6_eventsOf 13 [(3, .int (nI j)), (2, .int (kf_evs σ x j)), (0, .ref 0), (1, .int x)] [] σ τ z c n Q := by
    intro r9
    induction r9 with
    | zero =>
      intro j hQ hj0 hr
      exact absurd hr (by omega)
    | succ r9 ih =>
      intro j hQ hj0 hr
      refine k_iload_n 3 dX6_eventsOf_13 rfl rfl ?_
      refine k_aload_n 0 dX6_eventsOf_14 rfl rfl ?_
      refine k_getfield dX6_eventsOf_15 hc_X6 hK.1.1 hK.1.2 0 (by decide) wF_X6_12 rfl ?_
      refine k_getfieldN dX6_eventsOf_18 hc_X5 hK.2.1.1.1 hK.2.1.1.2 6 (by decide) wNF_X6_158 rfl ?_
      refine k_invV (As := []) dX6_eventsOf_21 mm_X3_size wL_X6_162 ⟨by decide, by decide⟩ hK.2.1.2.2.2.2.2.2.2.1.1 hK.2.1.2.2.2.2.2.2.2.1.2 rfl rfl (Nat.le_of_ble_eq_true rfl) (Nat.zero_le _) (Nat.zero_le _) (m_X3_size hK.2.1.2.2.2.2.2.2.2 ⟨rfl, ?_⟩)
      refine k_icmpge 52 dX6_eventsOf_24 (by decide) (fun h24 => ?_) (fun h24 => ?_)
      · have hj : j = lc := by have := (nI_leI (by omega) (by omega)).mp (hlc ▸ h24); omega
        subst hj
        refine k_iload_n 2 dX6_eventsOf_52 rfl rfl ?_
        refine k_iret dX6_eventsOf_53 rfl (rfl) ?_
        exact hQ
      · have hlt : j < lc := by rcases Nat.lt_or_ge j lc with q | q; exact q; exact absurd (by rw [hlc]; exact nI_le q (by omega)) h24
        refine k_aload_n 0 dX6_eventsOf_27 rfl rfl ?_
        refine k_getfield dX6_eventsOf_28 hc_X6 hK.1.1 hK.1.2 0 (by decide) wF_X6_12 rfl ?_
        refine k_getfieldN dX6_eventsOf_31 hc_X5 hK.2.1.1.1 hK.2.1.1.2 6 (by decide) wNF_X6_158 rfl ?_
        refine k_iload_n 3 dX6_eventsOf_34 rfl rfl ?_
        refine k_iconst (0) dX6_eventsOf_35 (by decide) ?_
        refine k_invV (As := [_, _]) dX6_eventsOf_36 mm_X3_about wL_X6_167 ⟨by decide, by decide⟩ hK.2.1.2.2.2.2.2.2.2.1.1 hK.2.1.2.2.2.2.2.2.2.1.2 rfl rfl (Nat.le_of_ble_eq_true rfl) (Nat.zero_le _) (Nat.zero_le _) (m_X3_about hK.2.1.2.2.2.2.2.2.2 ⟨rfl, ?_⟩)
        refine k_iload_n 1 dX6_eventsOf_39 rfl rfl ?_
        refine k_icmpne 46 dX6_eventsOf_40 (by decide) (fun h40 => ?_) (fun h40 => ?_)
        · refine k_iinc (nI (j + 1)) (lv' := [(3, _), (2, _), (0, _), (1, _)]) dX6_eventsOf_46 rfl (kn_inc j) (by decide) rfl ?_
          refine k_goto 13 dX6_eventsOf_49 (by decide) ?_
          have e9 : kf_evs σ x (j + 1) = if kf_about σ 14 (nI j) 0 = x then kf_evs σ x j + 1 else kf_evs σ x j := rfl
          rw [if_neg h40] at e9
          have h9 := ih (j + 1) hQ (by omega) (by omega)
          rw [e9] at h9
          exact h9
        · refine k_iinc (kf_evs σ x j + 1) (lv' := [(2, _), (3, _), (0, _), (1, _)]) dX6_eventsOf_43 rfl (rfl) (by decide) rfl ?_
          refine k_iinc (nI (j + 1)) (lv' := [(3, _), (2, _), (0, _), (1, _)]) dX6_eventsOf_46 rfl (kn_inc j) (by decide) rfl ?_
          refine k_goto 13 dX6_eventsOf_49 (by decide) ?_
          have e9 : kf_evs σ x (j + 1) = if kf_about σ 14 (nI j) 0 = x then kf_evs σ x j + 1 else kf_evs σ x j := rfl
          rw [if_pos h40] at e9
          have h9 := ih (j + 1) hQ (by omega) (by omega)
          rw [e9] at h9
          exact h9
  refine k_iload_n 1 dX6_eventsOf_0 rfl rfl ?_
  refine k_iconst (0) dX6_eventsOf_1 (by decide) ?_
  refine k_iconst (4) dX6_eventsOf_2 (by decide) ?_
  refine k_invS (As := [_, _, _]) dX6_eventsOf_3 mm_X6_within wL_X6_33 ⟨by decide, by decide⟩ rfl rfl (Nat.le_of_ble_eq_true rfl) (Nat.zero_le _) (Nat.zero_le _) (m_X6_within ⟨rfl, ?_⟩)
  refine k_invS (As := [_]) dX6_eventsOf_6 mm_X6_demand wL_X6_37 ⟨by decide, by decide⟩ rfl rfl (Nat.le_of_ble_eq_true rfl) (c1 := 1) (n1 := 6) (by omega) (by omega) (m_X6_demand (fun hd => ⟨rfl, ?_⟩) (fun hd => ⟨rfl, k_thOut rfl (hN hd)⟩))
  refine k_iconst (0) dX6_eventsOf_9 (by decide) ?_
  refine k_istore_n 2 (lv' := [(2, _), (0, _), (1, _)]) dX6_eventsOf_10 rfl (by decide) rfl ?_
  refine k_iconst (0) dX6_eventsOf_11 (by decide) ?_
  refine k_istore_n 3 (lv' := [(3, _), (2, _), (0, _), (1, _)]) dX6_eventsOf_12 rfl (by decide) rfl ?_
  exact lp13 (lc + 1) 0 (hQ hd) (by omega) (by omega)

set_option maxRecDepth 100000 in
set_option maxHeartbeats 4000000 in
theorem m_X6_extreme_c {X : kn_X} {σ : kn_S} {τ : kn_T} {z : kn_Z} {c n : Nat} {Q : kn_Q} {x w v : Int32} (hK : kn_isK z) (hw : w = 0) (hQ : ¬ (kf_within x 0 (4 - 1)) = 0 → Q (.inl (some (.int (kf_ext (σ 13) x 4 v 5)))) σ τ z) (hNp : (kf_within x 0 (4 - 1)) = 0 → Q (.inr "java/lang/IndexOutOfBoundsException") σ τ z) : kn_Ev X MX6_extreme [.ref 0, .int x, .int w, .int v] σ τ z (c + 1) (n + 6) Q := by
  refine kn_entry (by decide +kernel) rfl (Nat.le_of_ble_eq_true rfl) ?_
  show kn_Go X MX6_extreme 0 [(0, .ref 0), (1, .int x), (2, .int w), (3, .int v)] [] _ _ _ _ _ _
  have lp73 : ∀ r9 : Nat, ∀ j : Nat, Q (.inl (some (.int (kf_ext (σ 13) x 4 v 5)))) σ τ z → j + 1 ≤ 6 → 6 + 1 ≤ j + 1 + r9 → kn_Go X MX6_extreme 73 [(8, .int (nI (j + 1))), (7, .int (kf_ext (σ 13) x 4 v j)), (6, .int 6), (5, .int 4), (4, .int x), (0, .ref 0), (1, .int x), (2, .int w), (3, .int v)] [] σ τ z c n Q := by
    intro r9
    induction r9 with
    | zero =>
      intro j hQ hj0 hr
      exact absurd hr (by omega)
    | succ r9 ih =>
      intro j hQ hj0 hr
      refine k_iload dX6_extreme_73 rfl ?_
      refine k_iload dX6_extreme_75 rfl ?_
      refine k_icmpge 129 dX6_extreme_77 (by decide) (fun h77 => ?_) (fun h77 => ?_)
      · have hj : j = 5 := by have := (nI_leI (a := 6) (b := j + 1) (by omega) (by omega)).mp h77; omega
        subst hj
        refine k_iload dX6_extreme_129 rfl ?_
        refine k_iret dX6_extreme_131 rfl (rfl) ?_
        exact hQ
      · have hlt : j + 1 < 6 := by rcases Nat.lt_or_ge (j + 1) 6 with q | q; exact q; exact absurd (show nI 6 ≤ nI (j + 1) from nI_le q (by omega)) h77
        refine k_aload_n 0 dX6_extreme_80 rfl rfl ?_
        refine k_getfield dX6_extreme_81 hc_X6 hK.1.1 hK.1.2 0 (by decide) wF_X6_12 rfl ?_
        refine k_getfieldN dX6_extreme_84 hc_X5 hK.2.1.1.1 hK.2.1.1.2 5 (by decide) wNF_X6_80 rfl ?_
        refine k_iload dX6_extreme_87 rfl ?_
        refine k_iload dX6_extreme_89 rfl ?_
        refine k_iload dX6_extreme_91 rfl ?_
        refine k_imul dX6_extreme_93 ?_
        refine k_iadd dX6_extreme_94 ?_
        refine k_invV (As := [_]) dX6_extreme_95 mm_X4_at wL_X6_61 ⟨by decide, by decide⟩ hK.2.1.2.2.2.2.2.2.1.1.1 hK.2.1.2.2.2.2.2.2.1.1.2 rfl rfl (Nat.le_of_ble_eq_true rfl) (Nat.zero_le _) (Nat.zero_le _) (m_X4_at hK.2.1.2.2.2.2.2.2.1 (Nat.le_of_ble_eq_true rfl) ⟨rfl, ?_⟩)
        refine k_istore (lv' := [(9, _), (8, _), (7, _), (6, _), (5, _), (4, _), (0, _), (1, _), (2, _), (3, _)]) dX6_extreme_98 (by decide) rfl ?_
        refine k_iload_n 3 dX6_extreme_100 rfl rfl ?_
        refine k_ifeq 114 dX6_extreme_101 (by decide) (fun h101 => ?_) (fun h101 => ?_)
        · refine k_iload dX6_extreme_114 rfl ?_
          refine k_iload dX6_extreme_116 rfl ?_
          refine k_invS (As := [_, _]) dX6_extreme_118 mm_J9_min_7cf53 wL_X6_155 ⟨by decide, by decide⟩ rfl rfl (Nat.le_of_ble_eq_true rfl) (Nat.zero_le _) (Nat.zero_le _) (m_J9_min_7cf53 ⟨rfl, ?_⟩)
          refine k_istore (lv' := [(7, _), (9, _), (8, _), (6, _), (5, _), (4, _), (0, _), (1, _), (2, _), (3, _)]) dX6_extreme_121 (by decide) rfl ?_
          refine k_iinc (nI (j + 1 + 1)) (lv' := [(8, _), (7, _), (9, _), (6, _), (5, _), (4, _), (0, _), (1, _), (2, _), (3, _)]) dX6_extreme_123 rfl (kn_inc (j + 1)) (by decide) rfl ?_
          refine k_goto 73 dX6_extreme_126 (by decide) ?_
          refine k_re [8, 7, 6, 5, 4, 0, 1, 2, 3] (lv' := [(8, _), (7, _), (6, _), (5, _), (4, _), (0, _), (1, _), (2, _), (3, _)]) rfl ?_
          have e9 : kf_ext (σ 13) x 4 v (j + 1) = if v = 0 then kf_min (kf_ext (σ 13) x 4 v j) (kf_at (σ 13) 24 (x + nI (j + 1) * 4)) else kf_max (kf_ext (σ 13) x 4 v j) (kf_at (σ 13) 24 (x + nI (j + 1) * 4)) := rfl
          rw [if_pos h101] at e9
          have h9 := ih (j + 1) hQ (by omega) (by omega)
          rw [e9] at h9
          exact h9
        · refine k_iload dX6_extreme_104 rfl ?_
          refine k_iload dX6_extreme_106 rfl ?_
          refine k_invS (As := [_, _]) dX6_extreme_108 mm_J9_max_7cf53 wL_X6_150 ⟨by decide, by decide⟩ rfl rfl (Nat.le_of_ble_eq_true rfl) (Nat.zero_le _) (Nat.zero_le _) (m_J9_max_7cf53 ⟨rfl, ?_⟩)
          refine k_goto 121 dX6_extreme_111 (by decide) ?_
          refine k_istore (lv' := [(7, _), (9, _), (8, _), (6, _), (5, _), (4, _), (0, _), (1, _), (2, _), (3, _)]) dX6_extreme_121 (by decide) rfl ?_
          refine k_iinc (nI (j + 1 + 1)) (lv' := [(8, _), (7, _), (9, _), (6, _), (5, _), (4, _), (0, _), (1, _), (2, _), (3, _)]) dX6_extreme_123 rfl (kn_inc (j + 1)) (by decide) rfl ?_
          refine k_goto 73 dX6_extreme_126 (by decide) ?_
          refine k_re [8, 7, 6, 5, 4, 0, 1, 2, 3] (lv' := [(8, _), (7, _), (6, _), (5, _), (4, _), (0, _), (1, _), (2, _), (3, _)]) rfl ?_
          have e9 : kf_ext (σ 13) x 4 v (j + 1) = if v = 0 then kf_min (kf_ext (σ 13) x 4 v j) (kf_at (σ 13) 24 (x + nI (j + 1) * 4)) else kf_max (kf_ext (σ 13) x 4 v j) (kf_at (σ 13) 24 (x + nI (j + 1) * 4)) := rfl
          rw [if_neg h101] at e9
          have h9 := ih (j + 1) hQ (by omega) (by omega)
          rw [e9] at h9
          exact h9
  refine k_iload_n 1 dX6_extreme_0 rfl rfl ?_
  refine k_iconst (0) dX6_extreme_1 (by decide) ?_
  refine k_iload_n 2 dX6_extreme_2 rfl rfl ?_
  refine k_ifeq 11 dX6_extreme_3 (by decide) (fun h3 => ?_) (fun h3 => ?_)
  · refine k_iconst (4) dX6_extreme_11 (by decide) ?_
    refine k_iconst (1) dX6_extreme_12 (by decide) ?_
    refine k_isub dX6_extreme_13 ?_
    refine k_invS (As := [_, _, _]) dX6_extreme_14 mm_X6_within wL_X6_33 ⟨by decide, by decide⟩ rfl rfl (Nat.le_of_ble_eq_true rfl) (Nat.zero_le _) (Nat.zero_le _) (m_X6_within ⟨rfl, ?_⟩)
    refine k_invS (As := [_]) dX6_extreme_17 mm_X6_demandPlace wL_X6_77 ⟨by decide, by decide⟩ rfl rfl (Nat.le_of_ble_eq_true rfl) (c1 := 1) (n1 := 6) (by omega) (by omega) (m_X6_demandPlace (fun hp => ⟨rfl, ?_⟩) (fun hp => ⟨rfl, k_thOut rfl (hNp hp)⟩))
    refine k_iload_n 2 dX6_extreme_20 rfl rfl ?_
    refine k_ifeq 30 dX6_extreme_21 (by decide) (fun h21 => ?_) (fun h21 => ?_)
    · refine k_iload_n 1 dX6_extreme_30 rfl rfl ?_
      refine k_istore (lv' := [(4, _), (0, _), (1, _), (2, _), (3, _)]) dX6_extreme_31 (by decide) rfl ?_
      refine k_iload_n 2 dX6_extreme_33 rfl rfl ?_
      refine k_ifeq 41 dX6_extreme_34 (by decide) (fun h34 => ?_) (fun h34 => ?_)
      · refine k_iconst (4) dX6_extreme_41 (by decide) ?_
        refine k_istore (lv' := [(5, _), (4, _), (0, _), (1, _), (2, _), (3, _)]) dX6_extreme_42 (by decide) rfl ?_
        refine k_iload_n 2 dX6_extreme_44 rfl rfl ?_
        refine k_ifeq 52 dX6_extreme_45 (by decide) (fun h45 => ?_) (fun h45 => ?_)
        · refine k_bipush (6) dX6_extreme_52 (by decide) ?_
          refine k_istore (lv' := [(6, _), (5, _), (4, _), (0, _), (1, _), (2, _), (3, _)]) dX6_extreme_54 (by decide) rfl ?_
          refine k_aload_n 0 dX6_extreme_56 rfl rfl ?_
          refine k_getfield dX6_extreme_57 hc_X6 hK.1.1 hK.1.2 0 (by decide) wF_X6_12 rfl ?_
          refine k_getfieldN dX6_extreme_60 hc_X5 hK.2.1.1.1 hK.2.1.1.2 5 (by decide) wNF_X6_80 rfl ?_
          refine k_iload dX6_extreme_63 rfl ?_
          refine k_invV (As := [_]) dX6_extreme_65 mm_X4_at wL_X6_61 ⟨by decide, by decide⟩ hK.2.1.2.2.2.2.2.2.1.1.1 hK.2.1.2.2.2.2.2.2.1.1.2 rfl rfl (Nat.le_of_ble_eq_true rfl) (Nat.zero_le _) (Nat.zero_le _) (m_X4_at hK.2.1.2.2.2.2.2.2.1 (Nat.le_of_ble_eq_true rfl) ⟨rfl, ?_⟩)
          refine k_istore (lv' := [(7, _), (6, _), (5, _), (4, _), (0, _), (1, _), (2, _), (3, _)]) dX6_extreme_68 (by decide) rfl ?_
          refine k_iconst (1) dX6_extreme_70 (by decide) ?_
          refine k_istore (lv' := [(8, _), (7, _), (6, _), (5, _), (4, _), (0, _), (1, _), (2, _), (3, _)]) dX6_extreme_71 (by decide) rfl ?_
          exact lp73 7 0 (hQ hp) (by omega) (by omega)
        · exact absurd hw h45
      · exact absurd hw h34
    · exact absurd hw h21
  · exact absurd hw h3

set_option maxRecDepth 100000 in
set_option maxHeartbeats 4000000 in
theorem m_X6_extreme_r {X : kn_X} {σ : kn_S} {τ : kn_T} {z : kn_Z} {c n : Nat} {Q : kn_Q} {x w v : Int32} (hK : kn_isK z) (hw : ¬ w = 0) (hQ : ¬ (kf_within x 0 (6 - 1)) = 0 → Q (.inl (some (.int (kf_ext (σ 13) (4 * x) 1 v 3)))) σ τ z) (hNp : (kf_within x 0 (6 - 1)) = 0 → Q (.inr "java/lang/IndexOutOfBoundsException") σ τ z) : kn_Ev X MX6_extreme [.ref 0, .int x, .int w, .int v] σ τ z (c + 1) (n + 6) Q := by
  refine kn_entry (by decide +kernel) rfl (Nat.le_of_ble_eq_true rfl) ?_
  show kn_Go X MX6_extreme 0 [(0, .ref 0), (1, .int x), (2, .int w), (3, .int v)] [] _ _ _ _ _ _
  have lp73 : ∀ r9 : Nat, ∀ j : Nat, Q (.inl (some (.int (kf_ext (σ 13) (4 * x) 1 v 3)))) σ τ z → j + 1 ≤ 4 → 4 + 1 ≤ j + 1 + r9 → kn_Go X MX6_extreme 73 [(8, .int (nI (j + 1))), (7, .int (kf_ext (σ 13) (4 * x) 1 v j)), (6, .int 4), (5, .int 1), (4, .int (4 * x)), (0, .ref 0), (1, .int x), (2, .int w), (3, .int v)] [] σ τ z c n Q := by
    intro r9
    induction r9 with
    | zero =>
      intro j hQ hj0 hr
      exact absurd hr (by omega)
    | succ r9 ih =>
      intro j hQ hj0 hr
      refine k_iload dX6_extreme_73 rfl ?_
      refine k_iload dX6_extreme_75 rfl ?_
      refine k_icmpge 129 dX6_extreme_77 (by decide) (fun h77 => ?_) (fun h77 => ?_)
      · have hj : j = 3 := by have := (nI_leI (a := 4) (b := j + 1) (by omega) (by omega)).mp h77; omega
        subst hj
        refine k_iload dX6_extreme_129 rfl ?_
        refine k_iret dX6_extreme_131 rfl (rfl) ?_
        exact hQ
      · have hlt : j + 1 < 4 := by rcases Nat.lt_or_ge (j + 1) 4 with q | q; exact q; exact absurd (show nI 4 ≤ nI (j + 1) from nI_le q (by omega)) h77
        refine k_aload_n 0 dX6_extreme_80 rfl rfl ?_
        refine k_getfield dX6_extreme_81 hc_X6 hK.1.1 hK.1.2 0 (by decide) wF_X6_12 rfl ?_
        refine k_getfieldN dX6_extreme_84 hc_X5 hK.2.1.1.1 hK.2.1.1.2 5 (by decide) wNF_X6_80 rfl ?_
        refine k_iload dX6_extreme_87 rfl ?_
        refine k_iload dX6_extreme_89 rfl ?_
        refine k_iload dX6_extreme_91 rfl ?_
        refine k_imul dX6_extreme_93 ?_
        refine k_iadd dX6_extreme_94 ?_
        refine k_invV (As := [_]) dX6_extreme_95 mm_X4_at wL_X6_61 ⟨by decide, by decide⟩ hK.2.1.2.2.2.2.2.2.1.1.1 hK.2.1.2.2.2.2.2.2.1.1.2 rfl rfl (Nat.le_of_ble_eq_true rfl) (Nat.zero_le _) (Nat.zero_le _) (m_X4_at hK.2.1.2.2.2.2.2.2.1 (Nat.le_of_ble_eq_true rfl) ⟨rfl, ?_⟩)
        refine k_istore (lv' := [(9, _), (8, _), (7, _), (6, _), (5, _), (4, _), (0, _), (1, _), (2, _), (3, _)]) dX6_extreme_98 (by decide) rfl ?_
        refine k_iload_n 3 dX6_extreme_100 rfl rfl ?_
        refine k_ifeq 114 dX6_extreme_101 (by decide) (fun h101 => ?_) (fun h101 => ?_)
        · refine k_iload dX6_extreme_114 rfl ?_
          refine k_iload dX6_extreme_116 rfl ?_
          refine k_invS (As := [_, _]) dX6_extreme_118 mm_J9_min_7cf53 wL_X6_155 ⟨by decide, by decide⟩ rfl rfl (Nat.le_of_ble_eq_true rfl) (Nat.zero_le _) (Nat.zero_le _) (m_J9_min_7cf53 ⟨rfl, ?_⟩)
          refine k_istore (lv' := [(7, _), (9, _), (8, _), (6, _), (5, _), (4, _), (0, _), (1, _), (2, _), (3, _)]) dX6_extreme_121 (by decide) rfl ?_
          refine k_iinc (nI (j + 1 + 1)) (lv' := [(8, _), (7, _), (9, _), (6, _), (5, _), (4, _), (0, _), (1, _), (2, _), (3, _)]) dX6_extreme_123 rfl (kn_inc (j + 1)) (by decide) rfl ?_
          refine k_goto 73 dX6_extreme_126 (by decide) ?_
          refine k_re [8, 7, 6, 5, 4, 0, 1, 2, 3] (lv' := [(8, _), (7, _), (6, _), (5, _), (4, _), (0, _), (1, _), (2, _), (3, _)]) rfl ?_
          have e9 : kf_ext (σ 13) (4 * x) 1 v (j + 1) = if v = 0 then kf_min (kf_ext (σ 13) (4 * x) 1 v j) (kf_at (σ 13) 24 ((4 * x) + nI (j + 1) * 1)) else kf_max (kf_ext (σ 13) (4 * x) 1 v j) (kf_at (σ 13) 24 ((4 * x) + nI (j + 1) * 1)) := rfl
          rw [if_pos h101] at e9
          have h9 := ih (j + 1) hQ (by omega) (by omega)
          rw [e9] at h9
          exact h9
        · refine k_iload dX6_extreme_104 rfl ?_
          refine k_iload dX6_extreme_106 rfl ?_
          refine k_invS (As := [_, _]) dX6_extreme_108 mm_J9_max_7cf53 wL_X6_150 ⟨by decide, by decide⟩ rfl rfl (Nat.le_of_ble_eq_true rfl) (Nat.zero_le _) (Nat.zero_le _) (m_J9_max_7cf53 ⟨rfl, ?_⟩)
          refine k_goto 121 dX6_extreme_111 (by decide) ?_
          refine k_istore (lv' := [(7, _), (9, _), (8, _), (6, _), (5, _), (4, _), (0, _), (1, _), (2, _), (3, _)]) dX6_extreme_121 (by decide) rfl ?_
          refine k_iinc (nI (j + 1 + 1)) (lv' := [(8, _), (7, _), (9, _), (6, _), (5, _), (4, _), (0, _), (1, _), (2, _), (3, _)]) dX6_extreme_123 rfl (kn_inc (j + 1)) (by decide) rfl ?_
          refine k_goto 73 dX6_extreme_126 (by decide) ?_
          refine k_re [8, 7, 6, 5, 4, 0, 1, 2, 3] (lv' := [(8, _), (7, _), (6, _), (5, _), (4, _), (0, _), (1, _), (2, _), (3, _)]) rfl ?_
          have e9 : kf_ext (σ 13) (4 * x) 1 v (j + 1) = if v = 0 then kf_min (kf_ext (σ 13) (4 * x) 1 v j) (kf_at (σ 13) 24 ((4 * x) + nI (j + 1) * 1)) else kf_max (kf_ext (σ 13) (4 * x) 1 v j) (kf_at (σ 13) 24 ((4 * x) + nI (j + 1) * 1)) := rfl
          rw [if_neg h101] at e9
          have h9 := ih (j + 1) hQ (by omega) (by omega)
          rw [e9] at h9
          exact h9
  refine k_iload_n 1 dX6_extreme_0 rfl rfl ?_
  refine k_iconst (0) dX6_extreme_1 (by decide) ?_
  refine k_iload_n 2 dX6_extreme_2 rfl rfl ?_
  refine k_ifeq 11 dX6_extreme_3 (by decide) (fun h3 => ?_) (fun h3 => ?_)
  · exact absurd h3 hw
  · refine k_bipush (6) dX6_extreme_6 (by decide) ?_
    refine k_goto 12 dX6_extreme_8 (by decide) ?_
    refine k_iconst (1) dX6_extreme_12 (by decide) ?_
    refine k_isub dX6_extreme_13 ?_
    refine k_invS (As := [_, _, _]) dX6_extreme_14 mm_X6_within wL_X6_33 ⟨by decide, by decide⟩ rfl rfl (Nat.le_of_ble_eq_true rfl) (Nat.zero_le _) (Nat.zero_le _) (m_X6_within ⟨rfl, ?_⟩)
    refine k_invS (As := [_]) dX6_extreme_17 mm_X6_demandPlace wL_X6_77 ⟨by decide, by decide⟩ rfl rfl (Nat.le_of_ble_eq_true rfl) (c1 := 1) (n1 := 6) (by omega) (by omega) (m_X6_demandPlace (fun hp => ⟨rfl, ?_⟩) (fun hp => ⟨rfl, k_thOut rfl (hNp hp)⟩))
    refine k_iload_n 2 dX6_extreme_20 rfl rfl ?_
    refine k_ifeq 30 dX6_extreme_21 (by decide) (fun h21 => ?_) (fun h21 => ?_)
    · exact absurd h21 hw
    · refine k_iconst (4) dX6_extreme_24 (by decide) ?_
      refine k_iload_n 1 dX6_extreme_25 rfl rfl ?_
      refine k_imul dX6_extreme_26 ?_
      refine k_goto 31 dX6_extreme_27 (by decide) ?_
      refine k_istore (lv' := [(4, _), (0, _), (1, _), (2, _), (3, _)]) dX6_extreme_31 (by decide) rfl ?_
      refine k_iload_n 2 dX6_extreme_33 rfl rfl ?_
      refine k_ifeq 41 dX6_extreme_34 (by decide) (fun h34 => ?_) (fun h34 => ?_)
      · exact absurd h34 hw
      · refine k_iconst (1) dX6_extreme_37 (by decide) ?_
        refine k_goto 42 dX6_extreme_38 (by decide) ?_
        refine k_istore (lv' := [(5, _), (4, _), (0, _), (1, _), (2, _), (3, _)]) dX6_extreme_42 (by decide) rfl ?_
        refine k_iload_n 2 dX6_extreme_44 rfl rfl ?_
        refine k_ifeq 52 dX6_extreme_45 (by decide) (fun h45 => ?_) (fun h45 => ?_)
        · exact absurd h45 hw
        · refine k_iconst (4) dX6_extreme_48 (by decide) ?_
          refine k_goto 54 dX6_extreme_49 (by decide) ?_
          refine k_istore (lv' := [(6, _), (5, _), (4, _), (0, _), (1, _), (2, _), (3, _)]) dX6_extreme_54 (by decide) rfl ?_
          refine k_aload_n 0 dX6_extreme_56 rfl rfl ?_
          refine k_getfield dX6_extreme_57 hc_X6 hK.1.1 hK.1.2 0 (by decide) wF_X6_12 rfl ?_
          refine k_getfieldN dX6_extreme_60 hc_X5 hK.2.1.1.1 hK.2.1.1.2 5 (by decide) wNF_X6_80 rfl ?_
          refine k_iload dX6_extreme_63 rfl ?_
          refine k_invV (As := [_]) dX6_extreme_65 mm_X4_at wL_X6_61 ⟨by decide, by decide⟩ hK.2.1.2.2.2.2.2.2.1.1.1 hK.2.1.2.2.2.2.2.2.1.1.2 rfl rfl (Nat.le_of_ble_eq_true rfl) (Nat.zero_le _) (Nat.zero_le _) (m_X4_at hK.2.1.2.2.2.2.2.2.1 (Nat.le_of_ble_eq_true rfl) ⟨rfl, ?_⟩)
          refine k_istore (lv' := [(7, _), (6, _), (5, _), (4, _), (0, _), (1, _), (2, _), (3, _)]) dX6_extreme_68 (by decide) rfl ?_
          refine k_iconst (1) dX6_extreme_70 (by decide) ?_
          refine k_istore (lv' := [(8, _), (7, _), (6, _), (5, _), (4, _), (0, _), (1, _), (2, _), (3, _)]) dX6_extreme_71 (by decide) rfl ?_
          exact lp73 5 0 (hQ hp) (by omega) (by omega)

set_option maxRecDepth 100000 in
set_option maxHeartbeats 4000000 in
theorem m_X6_append {X : kn_X} {σ : kn_S} {τ : kn_T} {z : kn_Z} {c n : Nat} {Q : kn_Q} {x : Int32} (hK : kn_isK z) (hQ : ¬ (kf_within x 0 127) = 0 → ¬ 120 ≤ σ 123 2 → Q (.inl (some (.int (kf_tadd σ 123 x 123 2)))) (kf_tadd σ 123 x) τ z) (hN : (kf_within x 0 127) = 0 → Q (.inr "java/lang/IllegalArgumentException") σ τ z) (hNs : ¬ (kf_within x 0 127) = 0 → 120 ≤ σ 123 2 → Q (.inr "java/lang/IllegalStateException") σ τ z) : kn_Ev X MX6_append [.ref 0, .int x] σ τ z (c + 2) (n + 12) Q := by
  refine kn_entry (by decide +kernel) rfl (Nat.le_of_ble_eq_true rfl) ?_
  show kn_Go X MX6_append 0 [(0, .ref 0), (1, .int x)] [] _ _ _ _ _ _
  refine k_iload_n 1 dX6_append_0 rfl rfl ?_
  refine k_iconst (0) dX6_append_1 (by decide) ?_
  refine k_bipush (127) dX6_append_2 (by decide) ?_
  refine k_invS (As := [_, _, _]) dX6_append_4 mm_X6_within wL_X6_33 ⟨by decide, by decide⟩ rfl rfl (Nat.le_of_ble_eq_true rfl) (Nat.zero_le _) (Nat.zero_le _) (m_X6_within ⟨rfl, ?_⟩)
  refine k_invS (As := [_]) dX6_append_7 mm_X6_demand wL_X6_37 ⟨by decide, by decide⟩ rfl rfl (Nat.le_of_ble_eq_true rfl) (c1 := 1) (n1 := 6) (by omega) (by omega) (m_X6_demand (fun hd => ⟨rfl, ?_⟩) (fun hd => ⟨rfl, k_thOut rfl (hN hd)⟩))
  refine k_aload_n 0 dX6_append_10 rfl rfl ?_
  refine k_getfield dX6_append_11 hc_X6 hK.1.1 hK.1.2 3 (by decide) wF_X6_29 rfl ?_
  refine k_invV (As := []) dX6_append_14 mm_X1_size wL_X6_183 ⟨by decide, by decide⟩ hK.2.2.2.2.1.1 hK.2.2.2.2.1.2 rfl rfl (Nat.le_of_ble_eq_true rfl) (Nat.zero_le _) (Nat.zero_le _) (m_X1_size hK.2.2.2.2 ⟨rfl, ?_⟩)
  refine k_bipush (120) dX6_append_17 (by decide) ?_
  refine k_icmpge 26 dX6_append_19 (by decide) (fun h19 => ?_) (fun h19 => ?_)
  · refine k_iconst (0) dX6_append_26 (by decide) ?_
    refine k_invS (As := [_]) dX6_append_27 mm_X6_demandState wL_X6_184 ⟨by decide, by decide⟩ rfl rfl (Nat.le_of_ble_eq_true rfl) (c1 := 1) (n1 := 6) (by omega) (by omega) (m_X6_demandState (fun hd9 => absurd rfl hd9) (fun _ => ⟨rfl, k_thOut rfl ?_⟩))
    exact hNs hd h19
  · refine k_iconst (1) dX6_append_22 (by decide) ?_
    refine k_goto 27 dX6_append_23 (by decide) ?_
    refine k_invS (As := [_]) dX6_append_27 mm_X6_demandState wL_X6_184 ⟨by decide, by decide⟩ rfl rfl (Nat.le_of_ble_eq_true rfl) (c1 := 1) (n1 := 6) (by omega) (by omega) (m_X6_demandState (fun _ => ⟨rfl, ?_⟩) (fun hd9 => absurd hd9 (by decide)))
    refine k_aload_n 0 dX6_append_30 rfl rfl ?_
    refine k_getfield dX6_append_31 hc_X6 hK.1.1 hK.1.2 3 (by decide) wF_X6_29 rfl ?_
    refine k_iload_n 1 dX6_append_34 rfl rfl ?_
    refine k_invV (As := [_]) dX6_append_35 mm_X1_add wL_X6_187 ⟨by decide, by decide⟩ hK.2.2.2.2.1.1 hK.2.2.2.2.1.2 rfl rfl (Nat.le_of_ble_eq_true rfl) (Nat.zero_le _) (Nat.zero_le _) (m_X1_add hK.2.2.2.2 ⟨rfl, ?_⟩)
    refine k_aload_n 0 dX6_append_38 rfl rfl ?_
    refine k_getfield dX6_append_39 hc_X6 hK.1.1 hK.1.2 3 (by decide) wF_X6_29 rfl ?_
    refine k_invV (As := []) dX6_append_42 mm_X1_size wL_X6_183 ⟨by decide, by decide⟩ hK.2.2.2.2.1.1 hK.2.2.2.2.1.2 rfl rfl (Nat.le_of_ble_eq_true rfl) (Nat.zero_le _) (Nat.zero_le _) (m_X1_size hK.2.2.2.2 ⟨rfl, ?_⟩)
    refine k_iret dX6_append_45 rfl (rfl) ?_
    exact hQ hd h19

set_option maxRecDepth 100000 in
set_option maxHeartbeats 4000000 in
theorem m_X6_undo {X : kn_X} {σ : kn_S} {τ : kn_T} {z : kn_Z} {c n : Nat} {Q : kn_Q} {m o k len : Nat}  (hK : kn_isK z) (hI : kn_I σ m o k len) (hQ : ¬ σ 41 2 ≤ 0 → Q (.inl (some (.int (kf_restH σ 41 1 o k 41 2)))) (kf_restH σ 41 1 o k) τ z) (hNs : σ 41 2 ≤ 0 → Q (.inr "java/lang/IllegalStateException") σ τ z) : kn_Ev X MX6_undo [.ref 0] σ τ z (c + 1) (n + 6) Q := by
  obtain ⟨⟨hcy, hm⟩, ⟨ho, ho4, hk, hk4⟩, ⟨hlen, hl120⟩, hbs, hb1, hb2⟩ := hI
  refine kn_entry (by decide +kernel) rfl (Nat.le_of_ble_eq_true rfl) ?_
  show kn_Go X MX6_undo 0 [(0, .ref 0)] [] _ _ _ _ _ _
  refine k_aload_n 0 dX6_undo_0 rfl rfl ?_
  refine k_getfield dX6_undo_1 hc_X6 hK.1.1 hK.1.2 2 (by decide) wF_X6_22 rfl ?_
  refine k_invV (As := []) dX6_undo_4 mm_X2_size wL_X6_205 ⟨by decide, by decide⟩ hK.2.2.2.1.1.1 hK.2.2.2.1.1.2 rfl rfl (Nat.le_of_ble_eq_true rfl) (Nat.zero_le _) (Nat.zero_le _) (m_X2_size hK.2.2.2.1 ⟨rfl, ?_⟩)
  refine k_ifle 14 dX6_undo_7 (by decide) (fun h7 => ?_) (fun h7 => ?_)
  · refine k_iconst (0) dX6_undo_14 (by decide) ?_
    refine k_invS (As := [_]) dX6_undo_15 mm_X6_demandState wL_X6_184 ⟨by decide, by decide⟩ rfl rfl (Nat.le_of_ble_eq_true rfl) (c1 := 1) (n1 := 6) (by omega) (by omega) (m_X6_demandState (fun hd9 => absurd rfl hd9) (fun _ => ⟨rfl, k_thOut rfl ?_⟩))
    exact hNs h7
  · refine k_iconst (1) dX6_undo_10 (by decide) ?_
    refine k_goto 15 dX6_undo_11 (by decide) ?_
    refine k_invS (As := [_]) dX6_undo_15 mm_X6_demandState wL_X6_184 ⟨by decide, by decide⟩ rfl rfl (Nat.le_of_ble_eq_true rfl) (c1 := 1) (n1 := 6) (by omega) (by omega) (m_X6_demandState (fun _ => ⟨rfl, ?_⟩) (fun hd9 => absurd hd9 (by decide)))
    refine k_aload_n 0 dX6_undo_18 rfl rfl ?_
    refine k_getfield dX6_undo_19 hc_X6 hK.1.1 hK.1.2 2 (by decide) wF_X6_22 rfl ?_
    refine k_aload_n 0 dX6_undo_22 rfl rfl ?_
    refine k_getfield dX6_undo_23 hc_X6 hK.1.1 hK.1.2 0 (by decide) wF_X6_12 rfl ?_
    refine k_invV (As := [_]) dX6_undo_26 mm_X2_restore wL_X6_206 ⟨by decide, by decide⟩ hK.2.2.2.1.1.1 hK.2.2.2.1.1.2 rfl rfl (Nat.le_of_ble_eq_true rfl) (Nat.zero_le _) (Nat.zero_le _) (m_X2_restore hK.2.2.2.1 hK.2.1 hbs ho ho4 hk hk4 ⟨rfl, ?_⟩)
    refine k_aload_n 0 dX6_undo_29 rfl rfl ?_
    refine k_getfield dX6_undo_30 hc_X6 hK.1.1 hK.1.2 2 (by decide) wF_X6_22 rfl ?_
    refine k_invV (As := []) dX6_undo_33 mm_X2_size wL_X6_205 ⟨by decide, by decide⟩ hK.2.2.2.1.1.1 hK.2.2.2.1.1.2 rfl rfl (Nat.le_of_ble_eq_true rfl) (Nat.zero_le _) (Nat.zero_le _) (m_X2_size hK.2.2.2.1 ⟨rfl, ?_⟩)
    refine k_iret dX6_undo_36 rfl (rfl) ?_
    exact hQ h7

