-- the loops of a state, a firing
def kf_fold (f : Nat → Int32) (g : Int32 → Int32 → Int32) (x : Int32) : Nat → Int32
  | 0 => x
  | m + 1 => g (kf_fold f g x m) (f m)
def kf_mapA (s : kn_S) (a m : Nat) (g : Int32 → Int32) : kn_S := fun b k => if b = a ∧ k < m then g (s a k) else s b k
theorem kf_mapA_0 (s : kn_S) (a : Nat) (g : Int32 → Int32) : kf_mapA s a 0 g = s := by
  funext b k
  simp [kf_mapA]
theorem kf_mapA_at (s : kn_S) (a j : Nat) (g : Int32 → Int32) : kf_mapA s a j g a j = s a j := by simp [kf_mapA]
theorem kf_mapA_ne (s : kn_S) {a b : Nat} (j : Nat) (g : Int32 → Int32) (h : b ≠ a) : kf_mapA s a j g b = s b := by
  funext k
  simp [kf_mapA, h]
theorem kf_mapA_succ (s : kn_S) (a m : Nat) (g : Int32 → Int32) : kn_up (kf_mapA s a m g) a m (g (s a m)) = kf_mapA s a (m + 1) g := by
  funext b k
  simp only [kn_up, kf_mapA]
  by_cases hb : b = a
  · by_cases hk : k = m
    · subst hk; simp [hb]
    · have : (k < m + 1) = (k < m) := by simp; omega
      simp [hb, hk, this]
  · simp [hb]
theorem kf_at_0 (f : Nat → Int32) {len : Nat} (hl : len < 2 ^ 31) (h : 0 < len) : kf_at f len 0 = f 0 := kf_at_nI (k := 0) hl h
theorem kf_put_nI (s : kn_S) (a : Nat) {len k : Nat} (hl : len < 2 ^ 31) (h : k < len) (x : Int32) : kf_put s a len (nI k) x = kn_up s a k x := by
  have h2 : k < 2 ^ 31 := by omega
  unfold kf_put
  rw [if_neg (nI_pos h2), if_neg (fun h3 => by have := (nI_leI hl h2).mp h3; omega), nI_clamp h2]
theorem kf_put_ne (s : kn_S) {a b : Nat} (len : Nat) (p x : Int32) (h : b ≠ a) : kf_put s a len p x b = s b := by
  unfold kf_put
  split
  · rfl
  split
  · rfl
  · exact kn_up_ne s _ x h
theorem kf_note_ne (s : kn_S) {l b : Nat} (k n f : Int32) (h0 : b ≠ l) (h2 : b ≠ l + 2) (h4 : b ≠ l + 4) (h6 : b ≠ l + 6) : kf_note s l k n f b = s b := by
  dsimp only [kf_note]
  rw [kf_put_ne _ _ _ _ h6, kf_put_ne _ _ _ _ h4, kf_put_ne _ _ _ _ h2]
  split <;> exact kn_up_ne s _ _ h0
def kf_dec (x : Int32) : Int32 := if x ≤ 0 then x else x + (-1)
def kf_gf (s : kn_S) (b m : Nat) : Int32 := kf_fold (fun k => s (b + 4) (k + 1)) kf_max (s (b + 4) 0) (m - 1)
def kf_sf (s : kn_S) (b m : Nat) : Int32 := kf_fold (fun k => s (b + 4) (k + 1)) kf_min (s (b + 4) 0) (m - 1)
def kf_add (x y : Int32) : Int32 := x + y
def kf_keep (s : kn_S) (b m : Nat) : kn_S := kf_mapA s (b + 4) m (fun x => kf_max x (kf_gf s b m - kf_at (s (b + 2)) 8 4))
def kf_learnUp (s : kn_S) (b m : Nat) (cell : Int32) : kn_S :=
  let s1 := kf_put s (b + 12) 24 cell (kf_at (s (b + 12)) 24 cell + 1)
  let s2 := kf_mapA s1 (b + 4) m kf_dec
  kf_note s2 (b + 13) 3 cell (s2 b 13)
def kf_learnDn (s : kn_S) (b : Nat) (cell : Int32) : kn_S :=
  let s1 := kf_put s (b + 12) 24 cell (kf_at (s (b + 12)) 24 cell - 1)
  kf_note s1 (b + 13) 4 cell (s1 b 13)
def kf_learnL (s : kn_S) (b : Nat) (cell mean : Int32) : kn_S := if 5 ≤ mean then s else if kf_at (s (b + 12)) 24 cell ≤ 0 then s else kf_learnDn s b cell
def kf_learnM (s : kn_S) (b m : Nat) (cell mean : Int32) : kn_S := if mean ≤ 20 then kf_learnL s b cell mean else if 100 ≤ kf_at (s (b + 12)) 24 cell then kf_learnL s b cell mean else kf_learnUp s b m cell
def kf_learn (s : kn_S) (b m : Nat) (cell : Int32) : kn_S := if s b 7 ≤ 0 then s else if s b 8 < kf_at (s (b + 2)) 8 5 then s else if s b 8 - s b 8 / s b 7 * s b 7 = 0 then kf_learnM s b m cell (kf_fold (s (b + 4)) kf_add 0 m / s b 7) else s
def kf_trA (s : kn_S) (b : Nat) (cell e : Int32) : kn_S :=
  let s1 := kf_watch s b e
  let s2 := kn_up s1 b 8 (if cell = s1 b 9 then s1 b 8 + 1 else 0)
  kn_up s2 b 9 cell
def kf_trF (s : kn_S) (b : Nat) : kn_S :=
  let s1 := kn_up s b 13 (s b 13 + 1)
  kn_up s1 b 14 (if s1 b 7 ≤ s1 b 14 + 1 then 0 else s1 b 14 + 1)
def kf_trB (s : kn_S) (b m : Nat) (cell e : Int32) : kn_S := if s b 12 = 0 then kf_trF (kf_learn (kf_keep (kf_listen s b (s b 14) cell e) b m) b m cell) b else kf_trF s b
def kf_trO (s : kn_S) (b : Nat) (e : Int32) : Int32 := if s b 12 = 0 then kf_lo s b (s b 14) e else 2
def kf_treat (s : kn_S) (b m : Nat) (speed load e : Int32) : kn_S := kf_trB (kf_trA s b (kf_cell speed load) e) b m (kf_cell speed load) e
def kf_to (s : kn_S) (b : Nat) (speed load e : Int32) : Int32 := kf_trO (kf_trA s b (kf_cell speed load) e) b e
def kf_rnd (x : Int32) : Int32 := (1103515245 * x.toInt64 + 12345 - (1103515245 * x.toInt64 + 12345) / 2147483648 * 2147483648).toInt32
def kf_en (s : kn_S) (b : Nat) (speed load oct : Int32) : Int32 := speed / 20 + load + (s b 15 / 65536 - s b 15 / 65536 / 40 * 40) + 12 * kf_max (kf_adv s b (s b 14) speed load - kf_klim speed load oct) 0
def kf_me (s : kn_S) (b : Nat) (speed load oct : Int32) : Int32 := if s b 16 = 0 then kf_min (kf_en s b speed load oct) 20000 else 0
def kf_s15 (s : kn_S) (b : Nat) : kn_S := kn_up s b 15 (kf_rnd (s b 15))
def kf_mod (s : kn_S) (b m : Nat) (speed load oct : Int32) : kn_S := kf_treat (kf_s15 s b) b m speed load (kf_me (kf_s15 s b) b speed load oct)
def kf_mo (s : kn_S) (b : Nat) (speed load oct : Int32) : Int32 := kf_to (kf_s15 s b) b speed load (kf_me (kf_s15 s b) b speed load oct)
def kf_restart (s : kn_S) (b : Nat) (w : Int32) : kn_S :=
  let s1 := kn_up s b 7 w
  let s2 := kf_fill s1 (b + 4) 8 0
  let s3 := kf_fill s2 (b + 6) 8 51200
  let s4 := kf_fill s3 (b + 8) 8 0
  let s5 := kf_fill s4 (b + 10) 8 0
  let s6 := kf_fill s5 (b + 12) 24 0
  let s7 := kn_up (kn_up s6 (b + 13) 3 0) (b + 13) 4 0
  kn_up (kn_up (kn_up (kn_up (kn_up (kn_up (kn_up s7 b 8 0) b 9 (-1)) b 10 0) b 11 0) b 12 0) b 13 0) b 14 0
def kf_cs1 (s : kn_S) (b b2 : Nat) : kn_S :=
  let s1 := kf_cpy s (b + 2) (s (b2 + 2)) 8
  let s2 := kf_cpy s1 (b + 4) (s1 (b2 + 4)) 8
  let s3 := kf_cpy s2 (b + 6) (s2 (b2 + 6)) 8
  let s4 := kf_cpy s3 (b + 8) (s3 (b2 + 8)) 8
  let s5 := kf_cpy s4 (b + 10) (s4 (b2 + 10)) 8
  let s6 := kf_cpy s5 (b + 12) (s5 (b2 + 12)) 24
  kf_logcpy s6 (b + 13) (b2 + 13)
def kf_cs2 (s : kn_S) (b b2 : Nat) : kn_S :=
  let s1 := kn_up s b 7 (s b2 7)
  let s2 := kn_up s1 b 8 (s1 b2 8)
  let s3 := kn_up s2 b 9 (s2 b2 9)
  let s4 := kn_up s3 b 10 (s3 b2 10)
  kn_up s4 b 11 (s4 b2 11)
def kf_cs3 (s : kn_S) (b b2 : Nat) : kn_S :=
  let s1 := kn_up s b 12 (s b2 12)
  let s2 := kn_up s1 b 13 (s1 b2 13)
  let s3 := kn_up s2 b 14 (s2 b2 14)
  let s4 := kn_up s3 b 15 (s3 b2 15)
  kn_up s4 b 16 (s4 b2 16)
def kf_cpySt (s : kn_S) (b b2 : Nat) : kn_S := kf_cs3 (kf_cs2 (kf_cs1 s b b2) b b2) b b2
def kn_01 (x : Int32) : Prop := x = 0 ∨ x = 1
theorem kn_nb {x : Int32} (h : kn_01 x) : narrow .boolean (.int x) = .int x := by rcases h with rfl | rfl <;> rfl
theorem kn_fb {x : Int32} (h : kn_01 x) : fits .boolean (.int x) = true := by rcases h with rfl | rfl <;> rfl
theorem kn_ltj {j m : Nat} {s7 : Int32} (hcy : s7 = nI m) (hm : m ≤ 8) (hj : j ≤ m) (h : ¬ s7 ≤ nI j) : j < m := by
  rcases Nat.lt_or_ge j m with q | q
  · exact q
  · exact absurd (by rw [hcy]; exact nI_le q (by omega)) h
theorem kn_eqj {j m : Nat} {s7 : Int32} (hcy : s7 = nI m) (hm : m ≤ 8) (hj : j ≤ m) (h : s7 ≤ nI j) : j = m := by
  rw [hcy] at h
  have := (nI_leI (by omega) (by omega)).mp h
  omega
theorem kf_lower_map (s : kn_S) (b j : Nat) (hj : j < 8) : kf_lower (kf_mapA s (b + 4) j kf_dec) b (nI j) = kf_mapA s (b + 4) (j + 1) kf_dec := by
  have hl : (8 : Nat) < 2 ^ 31 := by omega
  unfold kf_lower
  rw [kf_at_nI hl hj, kf_mapA_at, kf_put_nI _ _ hl hj, nI_clamp (by omega), kf_mapA_at, ← kf_mapA_succ]
  split
  · rename_i h
    have e : kf_dec (s (b + 4) j) = s (b + 4) j := by unfold kf_dec; rw [if_pos h]
    rw [e]
    funext a k
    simp only [kn_up]
    split
    · rename_i h9; rw [h9.1, h9.2, kf_mapA_at]
    · rfl
  · rename_i h
    have e : kf_dec (s (b + 4) j) = s (b + 4) j + (-1) := by unfold kf_dec; rw [if_neg h]
    rw [e]
theorem kf_watch_b (s : kn_S) (b : Nat) (e : Int32) {k : Nat} (h0 : k ≠ 10) (h1 : k ≠ 11) (h2 : k ≠ 12) : kf_watch s b e b k = s b k := by
  have hw1 : kf_w1 s b e b k = s b k := by
    unfold kf_w1
    split <;> simp [kn_up, h0, h1]
  have hn : ∀ (t : kn_S) (x y w : Int32), kf_note t (b + 13) x y w b = t b := fun t x y w => kf_note_ne t x y w (by omega) (by omega) (by omega) (by omega)
  have hw3 : ∀ t : kn_S, kf_w3 t b b k = t b k := by
    intro t
    unfold kf_w3
    split
    · rfl
    split
    · rfl
    · simp only [hn]
      simp [kn_up, h2]
  unfold kf_watch kf_w2
  split
  · split
    · rw [hw3, hw1]
    · simp only [hn]
      simp [kn_up, h2, hw1]
  · rw [hw3, hw1]
theorem kf_rfast_b (s : kn_S) (b : Nat) (c cell e t : Int32) : kf_rfast s b c cell e t b = s b := by
  dsimp only [kf_rfast]
  exact kf_put_ne _ _ _ _ (by omega)
theorem kf_lower_b (s : kn_S) (b : Nat) (c : Int32) : kf_lower s b c b = s b := by
  unfold kf_lower
  split
  · rfl
  · exact kf_put_ne _ _ _ _ (by omega)
theorem kf_listen_b (s : kn_S) (b : Nat) (c cell e : Int32) : kf_listen s b c cell e b = s b := by
  unfold kf_listen
  split
  · dsimp only [kf_listenQ]
    split
    · rw [kf_put_ne _ _ _ _ (by omega), kf_put_ne _ _ _ _ (by omega)]
    · rw [kf_lower_b, kf_put_ne _ _ _ _ (by omega), kf_put_ne _ _ _ _ (by omega), kf_put_ne _ _ _ _ (by omega)]
  · dsimp only [kf_listenK]
    rw [kf_note_ne _ _ _ _ (by omega) (by omega) (by omega) (by omega), kf_put_ne _ _ _ _ (by omega), kf_put_ne _ _ _ _ (by omega), kf_rfast_b]
theorem kf_keep_b (s : kn_S) (b m : Nat) : kf_keep s b m b = s b := kf_mapA_ne _ _ _ (by omega)
theorem kf_trA_b (s : kn_S) (b : Nat) (cell e : Int32) {k : Nat} (h0 : k ≠ 10) (h1 : k ≠ 11) (h2 : k ≠ 12) (h3 : k ≠ 8) (h4 : k ≠ 9) : kf_trA s b cell e b k = s b k := by
  dsimp only [kf_trA]
  simp [kn_up, h3, h4]
  exact kf_watch_b s b e h0 h1 h2
theorem kn_isSt_ne {z : kn_Z} {b b2 : Nat} (h : kn_isSt z b) (h2 : kn_isSt z b2) : b2 ≠ b + 2 ∧ b2 ≠ b + 4 ∧ b2 ≠ b + 6 ∧ b2 ≠ b + 8 ∧ b2 ≠ b + 10 ∧ b2 ≠ b + 12 ∧ b2 ≠ b + 13 ∧ b2 ≠ b + 15 ∧ b2 ≠ b + 17 ∧ b2 ≠ b + 19 := by
  obtain ⟨⟨-, e0⟩, r1, r2, r3, r4, r5, r6, l0, l1, l2, l3⟩ := h
  obtain ⟨⟨-, e2⟩, -⟩ := h2
  have k1 := r1.2.2; have k2 := r2.2.2; have k3 := r3.2.2; have k4 := r4.2.2; have k5 := r5.2.2; have k6 := r6.2.2
  have k7 := l0.2; have k8 := l1.2.2; have k9 := l2.2.2; have k10 := l3.2.2
  refine ⟨?_, ?_, ?_, ?_, ?_, ?_, ?_, ?_, ?_, ?_⟩ <;> intro h9 <;> subst h9 <;> simp_all
theorem kf_cs1_at {z : kn_Z} {b b2 : Nat} (h : kn_isSt z b) (h2 : kn_isSt z b2) (s : kn_S) (k : Nat) : kf_cs1 s b b2 b2 k = s b2 k := by
  obtain ⟨e1, e2, e3, e4, e5, e6, e7, e8, e9, e10⟩ := kn_isSt_ne h h2
  simp [kf_cs1, kf_logcpy, kf_cpy, kn_up, e1, e2, e3, e4, e5, e6, e7, e8, e9, e10]

set_option maxRecDepth 100000 in
set_option maxHeartbeats 4000000 in
theorem m_X5_greatestFast {X : kn_X} {σ : kn_S} {τ : kn_T} {z : kn_Z} {c n : Nat} {Q : kn_Q} {b m : Nat} (hs : kn_isSt z b) (hcy : σ b 7 = nI m) (hm : 1 ≤ m ∧ m ≤ 8) (hQ : Q (.inl (some (.int (kf_gf σ b m)))) σ τ z) : kn_Ev X MX5_greatestFast [.ref b] σ τ z c n Q := by
  refine kn_entry (by decide +kernel) rfl (Nat.le_of_ble_eq_true rfl) ?_
  show kn_Go X MX5_greatestFast 0 [(0, .ref b)] [] _ _ _ _ _ _
  have lp11 : ∀ r9 : Nat, ∀ j : Nat, j + 1 ≤ m → m + 1 ≤ j + 1 + r9 → kn_Go X MX5_greatestFast 11 [(2, .int (nI (j + 1))), (1, .int (kf_fold (fun k => σ (b + 4) (k + 1)) kf_max (σ (b + 4) 0) j)), (0, .ref b)] [] σ τ z c n Q := by
    intro r9
    induction r9 with
    | zero =>
      intro j hj0 hr
      exact absurd hr (by omega)
    | succ r9 ih =>
      intro j hj0 hr
      refine k_iload_n 2 dX5_greatestFast_11 rfl rfl ?_
      refine k_aload_n 0 dX5_greatestFast_12 rfl rfl ?_
      refine k_getfield dX5_greatestFast_13 hc_X5 hs.1.1 hs.1.2 7 (by decide) wF_X5_61 rfl ?_
      refine k_icmpge 38 dX5_greatestFast_16 (by decide) (fun h16 => ?_) (fun h16 => ?_)
      · have hj := kn_eqj hcy hm.2 hj0 h16
        have hj1 : j = m - 1 := by omega
        subst hj1
        refine k_iload_n 1 dX5_greatestFast_38 rfl rfl ?_
        refine k_iret dX5_greatestFast_39 rfl (rfl) ?_
        exact hQ
      · have hlt := kn_ltj hcy hm.2 hj0 h16
        refine k_iload_n 1 dX5_greatestFast_19 rfl rfl ?_
        refine k_aload_n 0 dX5_greatestFast_20 rfl rfl ?_
        refine k_getfield dX5_greatestFast_21 hc_X5 hs.1.1 hs.1.2 1 (by decide) wF_X5_20 rfl ?_
        refine k_iload_n 2 dX5_greatestFast_24 rfl rfl ?_
        refine k_invV (As := [_]) dX5_greatestFast_25 mm_X4_at wL_X5_99 ⟨by decide, by decide⟩ hs.2.2.1.1.1 hs.2.2.1.1.2 rfl rfl (Nat.le_of_ble_eq_true rfl) (Nat.zero_le _) (Nat.zero_le _) (m_X4_at hs.2.2.1 (Nat.le_of_ble_eq_true rfl) ⟨rfl, ?_⟩)
        refine k_invS (As := [_, _]) dX5_greatestFast_28 mm_J9_max_7cf53 wL_X5_123 ⟨by decide, by decide⟩ rfl rfl (Nat.le_of_ble_eq_true rfl) (Nat.zero_le _) (Nat.zero_le _) (m_J9_max_7cf53 ⟨rfl, ?_⟩)
        refine k_istore_n 1 (lv' := [(1, _), (2, _), (0, _)]) dX5_greatestFast_31 rfl (by decide) rfl ?_
        refine k_iinc (nI (j + 1 + 1)) (lv' := [(2, _), (1, _), (0, _)]) dX5_greatestFast_32 rfl (kn_inc (j + 1)) (by decide) rfl ?_
        refine k_goto 11 dX5_greatestFast_35 (by decide) ?_
        rw [kf_at_nI (by omega) (by omega)]
        exact ih (j + 1) (by omega) (by omega)
  refine k_aload_n 0 dX5_greatestFast_0 rfl rfl ?_
  refine k_getfield dX5_greatestFast_1 hc_X5 hs.1.1 hs.1.2 1 (by decide) wF_X5_20 rfl ?_
  refine k_iconst (0) dX5_greatestFast_4 (by decide) ?_
  refine k_invV (As := [_]) dX5_greatestFast_5 mm_X4_at wL_X5_99 ⟨by decide, by decide⟩ hs.2.2.1.1.1 hs.2.2.1.1.2 rfl rfl (Nat.le_of_ble_eq_true rfl) (Nat.zero_le _) (Nat.zero_le _) (m_X4_at hs.2.2.1 (Nat.le_of_ble_eq_true rfl) ⟨rfl, ?_⟩)
  refine k_istore_n 1 (lv' := [(1, _), (0, _)]) dX5_greatestFast_8 rfl (by decide) rfl ?_
  refine k_iconst (1) dX5_greatestFast_9 (by decide) ?_
  refine k_istore_n 2 (lv' := [(2, _), (1, _), (0, _)]) dX5_greatestFast_10 rfl (by decide) rfl ?_
  rw [kf_at_0 _ (by omega) (by omega)]
  exact lp11 (m + 1) 0 (by omega) (by omega)

set_option maxRecDepth 100000 in
set_option maxHeartbeats 4000000 in
theorem m_X5_smallestFast {X : kn_X} {σ : kn_S} {τ : kn_T} {z : kn_Z} {c n : Nat} {Q : kn_Q} {b m : Nat} (hs : kn_isSt z b) (hcy : σ b 7 = nI m) (hm : 1 ≤ m ∧ m ≤ 8) (hQ : Q (.inl (some (.int (kf_sf σ b m)))) σ τ z) : kn_Ev X MX5_smallestFast [.ref b] σ τ z c n Q := by
  refine kn_entry (by decide +kernel) rfl (Nat.le_of_ble_eq_true rfl) ?_
  show kn_Go X MX5_smallestFast 0 [(0, .ref b)] [] _ _ _ _ _ _
  have lp11 : ∀ r9 : Nat, ∀ j : Nat, j + 1 ≤ m → m + 1 ≤ j + 1 + r9 → kn_Go X MX5_smallestFast 11 [(2, .int (nI (j + 1))), (1, .int (kf_fold (fun k => σ (b + 4) (k + 1)) kf_min (σ (b + 4) 0) j)), (0, .ref b)] [] σ τ z c n Q := by
    intro r9
    induction r9 with
    | zero =>
      intro j hj0 hr
      exact absurd hr (by omega)
    | succ r9 ih =>
      intro j hj0 hr
      refine k_iload_n 2 dX5_smallestFast_11 rfl rfl ?_
      refine k_aload_n 0 dX5_smallestFast_12 rfl rfl ?_
      refine k_getfield dX5_smallestFast_13 hc_X5 hs.1.1 hs.1.2 7 (by decide) wF_X5_61 rfl ?_
      refine k_icmpge 38 dX5_smallestFast_16 (by decide) (fun h16 => ?_) (fun h16 => ?_)
      · have hj := kn_eqj hcy hm.2 hj0 h16
        have hj1 : j = m - 1 := by omega
        subst hj1
        refine k_iload_n 1 dX5_smallestFast_38 rfl rfl ?_
        refine k_iret dX5_smallestFast_39 rfl (rfl) ?_
        exact hQ
      · have hlt := kn_ltj hcy hm.2 hj0 h16
        refine k_iload_n 1 dX5_smallestFast_19 rfl rfl ?_
        refine k_aload_n 0 dX5_smallestFast_20 rfl rfl ?_
        refine k_getfield dX5_smallestFast_21 hc_X5 hs.1.1 hs.1.2 1 (by decide) wF_X5_20 rfl ?_
        refine k_iload_n 2 dX5_smallestFast_24 rfl rfl ?_
        refine k_invV (As := [_]) dX5_smallestFast_25 mm_X4_at wL_X5_99 ⟨by decide, by decide⟩ hs.2.2.1.1.1 hs.2.2.1.1.2 rfl rfl (Nat.le_of_ble_eq_true rfl) (Nat.zero_le _) (Nat.zero_le _) (m_X4_at hs.2.2.1 (Nat.le_of_ble_eq_true rfl) ⟨rfl, ?_⟩)
        refine k_invS (As := [_, _]) dX5_smallestFast_28 mm_J9_min_7cf53 wL_X5_106 ⟨by decide, by decide⟩ rfl rfl (Nat.le_of_ble_eq_true rfl) (Nat.zero_le _) (Nat.zero_le _) (m_J9_min_7cf53 ⟨rfl, ?_⟩)
        refine k_istore_n 1 (lv' := [(1, _), (2, _), (0, _)]) dX5_smallestFast_31 rfl (by decide) rfl ?_
        refine k_iinc (nI (j + 1 + 1)) (lv' := [(2, _), (1, _), (0, _)]) dX5_smallestFast_32 rfl (kn_inc (j + 1)) (by decide) rfl ?_
        refine k_goto 11 dX5_smallestFast_35 (by decide) ?_
        rw [kf_at_nI (by omega) (by omega)]
        exact ih (j + 1) (by omega) (by omega)
  refine k_aload_n 0 dX5_smallestFast_0 rfl rfl ?_
  refine k_getfield dX5_smallestFast_1 hc_X5 hs.1.1 hs.1.2 1 (by decide) wF_X5_20 rfl ?_
  refine k_iconst (0) dX5_smallestFast_4 (by decide) ?_
  refine k_invV (As := [_]) dX5_smallestFast_5 mm_X4_at wL_X5_99 ⟨by decide, by decide⟩ hs.2.2.1.1.1 hs.2.2.1.1.2 rfl rfl (Nat.le_of_ble_eq_true rfl) (Nat.zero_le _) (Nat.zero_le _) (m_X4_at hs.2.2.1 (Nat.le_of_ble_eq_true rfl) ⟨rfl, ?_⟩)
  refine k_istore_n 1 (lv' := [(1, _), (0, _)]) dX5_smallestFast_8 rfl (by decide) rfl ?_
  refine k_iconst (1) dX5_smallestFast_9 (by decide) ?_
  refine k_istore_n 2 (lv' := [(2, _), (1, _), (0, _)]) dX5_smallestFast_10 rfl (by decide) rfl ?_
  rw [kf_at_0 _ (by omega) (by omega)]
  exact lp11 (m + 1) 0 (by omega) (by omega)

set_option maxRecDepth 100000 in
set_option maxHeartbeats 4000000 in
theorem m_X5_allKnocks {X : kn_X} {σ : kn_S} {τ : kn_T} {z : kn_Z} {c n : Nat} {Q : kn_Q} {b m : Nat} (hs : kn_isSt z b) (hcy : σ b 7 = nI m) (hm : 1 ≤ m ∧ m ≤ 8) (hQ : Q (.inl (some (.int (kf_fold (σ (b + 10)) kf_add 0 m)))) σ τ z) : kn_Ev X MX5_allKnocks [.ref b] σ τ z c n Q := by
  refine kn_entry (by decide +kernel) rfl (Nat.le_of_ble_eq_true rfl) ?_
  show kn_Go X MX5_allKnocks 0 [(0, .ref b)] [] _ _ _ _ _ _
  have lp4 : ∀ r9 : Nat, ∀ j : Nat, j ≤ m → m + 1 ≤ j + r9 → kn_Go X MX5_allKnocks 4 [(2, .int (nI j)), (1, .int (kf_fold (σ (b + 10)) kf_add 0 j)), (0, .ref b)] [] σ τ z c n Q := by
    intro r9
    induction r9 with
    | zero =>
      intro j hj0 hr
      exact absurd hr (by omega)
    | succ r9 ih =>
      intro j hj0 hr
      refine k_iload_n 2 dX5_allKnocks_4 rfl rfl ?_
      refine k_aload_n 0 dX5_allKnocks_5 rfl rfl ?_
      refine k_getfield dX5_allKnocks_6 hc_X5 hs.1.1 hs.1.2 7 (by decide) wF_X5_61 rfl ?_
      refine k_icmpge 29 dX5_allKnocks_9 (by decide) (fun h9 => ?_) (fun h9 => ?_)
      · have hj := kn_eqj hcy hm.2 hj0 h9
        subst hj
        refine k_iload_n 1 dX5_allKnocks_29 rfl rfl ?_
        refine k_iret dX5_allKnocks_30 rfl (rfl) ?_
        exact hQ
      · have hlt := kn_ltj hcy hm.2 hj0 h9
        refine k_iload_n 1 dX5_allKnocks_12 rfl rfl ?_
        refine k_aload_n 0 dX5_allKnocks_13 rfl rfl ?_
        refine k_getfield dX5_allKnocks_14 hc_X5 hs.1.1 hs.1.2 4 (by decide) wF_X5_29 rfl ?_
        refine k_iload_n 2 dX5_allKnocks_17 rfl rfl ?_
        refine k_invV (As := [_]) dX5_allKnocks_18 mm_X4_at wL_X5_99 ⟨by decide, by decide⟩ hs.2.2.2.2.2.1.1.1 hs.2.2.2.2.2.1.1.2 rfl rfl (Nat.le_of_ble_eq_true rfl) (Nat.zero_le _) (Nat.zero_le _) (m_X4_at hs.2.2.2.2.2.1 (Nat.le_of_ble_eq_true rfl) ⟨rfl, ?_⟩)
        refine k_iadd dX5_allKnocks_21 ?_
        refine k_istore_n 1 (lv' := [(1, _), (2, _), (0, _)]) dX5_allKnocks_22 rfl (by decide) rfl ?_
        refine k_iinc (nI (j + 1)) (lv' := [(2, _), (1, _), (0, _)]) dX5_allKnocks_23 rfl (kn_inc j) (by decide) rfl ?_
        refine k_goto 4 dX5_allKnocks_26 (by decide) ?_
        rw [kf_at_nI (by omega) (by omega)]
        exact ih (j + 1) (by omega) (by omega)
  refine k_iconst (0) dX5_allKnocks_0 (by decide) ?_
  refine k_istore_n 1 (lv' := [(1, _), (0, _)]) dX5_allKnocks_1 rfl (by decide) rfl ?_
  refine k_iconst (0) dX5_allKnocks_2 (by decide) ?_
  refine k_istore_n 2 (lv' := [(2, _), (1, _), (0, _)]) dX5_allKnocks_3 rfl (by decide) rfl ?_
  exact lp4 (m + 1) 0 (by omega) (by omega)

set_option maxRecDepth 100000 in
set_option maxHeartbeats 4000000 in
theorem m_X5_sumOfFast {X : kn_X} {σ : kn_S} {τ : kn_T} {z : kn_Z} {c n : Nat} {Q : kn_Q} {b m : Nat} (hs : kn_isSt z b) (hcy : σ b 7 = nI m) (hm : 1 ≤ m ∧ m ≤ 8) (hQ : Q (.inl (some (.int (kf_fold (σ (b + 4)) kf_add 0 m)))) σ τ z) : kn_Ev X MX5_sumOfFast [.ref b] σ τ z c n Q := by
  refine kn_entry (by decide +kernel) rfl (Nat.le_of_ble_eq_true rfl) ?_
  show kn_Go X MX5_sumOfFast 0 [(0, .ref b)] [] _ _ _ _ _ _
  have lp4 : ∀ r9 : Nat, ∀ j : Nat, j ≤ m → m + 1 ≤ j + r9 → kn_Go X MX5_sumOfFast 4 [(2, .int (nI j)), (1, .int (kf_fold (σ (b + 4)) kf_add 0 j)), (0, .ref b)] [] σ τ z c n Q := by
    intro r9
    induction r9 with
    | zero =>
      intro j hj0 hr
      exact absurd hr (by omega)
    | succ r9 ih =>
      intro j hj0 hr
      refine k_iload_n 2 dX5_sumOfFast_4 rfl rfl ?_
      refine k_aload_n 0 dX5_sumOfFast_5 rfl rfl ?_
      refine k_getfield dX5_sumOfFast_6 hc_X5 hs.1.1 hs.1.2 7 (by decide) wF_X5_61 rfl ?_
      refine k_icmpge 29 dX5_sumOfFast_9 (by decide) (fun h9 => ?_) (fun h9 => ?_)
      · have hj := kn_eqj hcy hm.2 hj0 h9
        subst hj
        refine k_iload_n 1 dX5_sumOfFast_29 rfl rfl ?_
        refine k_iret dX5_sumOfFast_30 rfl (rfl) ?_
        exact hQ
      · have hlt := kn_ltj hcy hm.2 hj0 h9
        refine k_iload_n 1 dX5_sumOfFast_12 rfl rfl ?_
        refine k_aload_n 0 dX5_sumOfFast_13 rfl rfl ?_
        refine k_getfield dX5_sumOfFast_14 hc_X5 hs.1.1 hs.1.2 1 (by decide) wF_X5_20 rfl ?_
        refine k_iload_n 2 dX5_sumOfFast_17 rfl rfl ?_
        refine k_invV (As := [_]) dX5_sumOfFast_18 mm_X4_at wL_X5_99 ⟨by decide, by decide⟩ hs.2.2.1.1.1 hs.2.2.1.1.2 rfl rfl (Nat.le_of_ble_eq_true rfl) (Nat.zero_le _) (Nat.zero_le _) (m_X4_at hs.2.2.1 (Nat.le_of_ble_eq_true rfl) ⟨rfl, ?_⟩)
        refine k_iadd dX5_sumOfFast_21 ?_
        refine k_istore_n 1 (lv' := [(1, _), (2, _), (0, _)]) dX5_sumOfFast_22 rfl (by decide) rfl ?_
        refine k_iinc (nI (j + 1)) (lv' := [(2, _), (1, _), (0, _)]) dX5_sumOfFast_23 rfl (kn_inc j) (by decide) rfl ?_
        refine k_goto 4 dX5_sumOfFast_26 (by decide) ?_
        rw [kf_at_nI (by omega) (by omega)]
        exact ih (j + 1) (by omega) (by omega)
  refine k_iconst (0) dX5_sumOfFast_0 (by decide) ?_
  refine k_istore_n 1 (lv' := [(1, _), (0, _)]) dX5_sumOfFast_1 rfl (by decide) rfl ?_
  refine k_iconst (0) dX5_sumOfFast_2 (by decide) ?_
  refine k_istore_n 2 (lv' := [(2, _), (1, _), (0, _)]) dX5_sumOfFast_3 rfl (by decide) rfl ?_
  exact lp4 (m + 1) 0 (by omega) (by omega)

set_option maxRecDepth 100000 in
set_option maxHeartbeats 4000000 in
theorem m_X5_keepTogether {X : kn_X} {σ : kn_S} {τ : kn_T} {z : kn_Z} {c n : Nat} {Q : kn_Q} {b m : Nat} (hs : kn_isSt z b) (hcy : σ b 7 = nI m) (hm : 1 ≤ m ∧ m ≤ 8) (hQ : Q (.inl none) (kf_keep σ b m) τ z) : kn_Ev X MX5_keepTogether [.ref b] σ τ z c n Q := by
  refine kn_entry (by decide +kernel) rfl (Nat.le_of_ble_eq_true rfl) ?_
  show kn_Go X MX5_keepTogether 0 [(0, .ref b)] [] _ _ _ _ _ _
  have lp16 : ∀ r9 : Nat, ∀ j : Nat, j ≤ m → m + 1 ≤ j + r9 → kn_Go X MX5_keepTogether 16 [(2, .int (nI j)), (1, .int (kf_gf σ b m - kf_at (σ (b + 2)) 8 4)), (0, .ref b)] [] (kf_mapA σ (b + 4) j (fun x => kf_max x (kf_gf σ b m - kf_at (σ (b + 2)) 8 4))) τ z c n Q := by
    intro r9
    induction r9 with
    | zero =>
      intro j hj0 hr
      exact absurd hr (by omega)
    | succ r9 ih =>
      intro j hj0 hr
      refine k_iload_n 2 dX5_keepTogether_16 rfl rfl ?_
      refine k_aload_n 0 dX5_keepTogether_17 rfl rfl ?_
      refine k_getfield dX5_keepTogether_18 hc_X5 hs.1.1 hs.1.2 7 (by decide) wF_X5_61 rfl ?_
      refine k_icmpge 50 dX5_keepTogether_21 (by decide) (fun h21 => ?_) (fun h21 => ?_)
      · rw [kf_mapA_ne _ _ _ (by omega)] at h21
        have hj := kn_eqj hcy hm.2 hj0 h21
        subst hj
        refine k_vret dX5_keepTogether_50 rfl ?_
        exact hQ
      · rw [kf_mapA_ne _ _ _ (by omega)] at h21
        have hlt := kn_ltj hcy hm.2 hj0 h21
        refine k_aload_n 0 dX5_keepTogether_24 rfl rfl ?_
        refine k_getfield dX5_keepTogether_25 hc_X5 hs.1.1 hs.1.2 1 (by decide) wF_X5_20 rfl ?_
        refine k_iload_n 2 dX5_keepTogether_28 rfl rfl ?_
        refine k_aload_n 0 dX5_keepTogether_29 rfl rfl ?_
        refine k_getfield dX5_keepTogether_30 hc_X5 hs.1.1 hs.1.2 1 (by decide) wF_X5_20 rfl ?_
        refine k_iload_n 2 dX5_keepTogether_33 rfl rfl ?_
        refine k_invV (As := [_]) dX5_keepTogether_34 mm_X4_at wL_X5_99 ⟨by decide, by decide⟩ hs.2.2.1.1.1 hs.2.2.1.1.2 rfl rfl (Nat.le_of_ble_eq_true rfl) (Nat.zero_le _) (Nat.zero_le _) (m_X4_at hs.2.2.1 (Nat.le_of_ble_eq_true rfl) ⟨rfl, ?_⟩)
        refine k_iload_n 1 dX5_keepTogether_37 rfl rfl ?_
        refine k_invS (As := [_, _]) dX5_keepTogether_38 mm_J9_max_7cf53 wL_X5_123 ⟨by decide, by decide⟩ rfl rfl (Nat.le_of_ble_eq_true rfl) (Nat.zero_le _) (Nat.zero_le _) (m_J9_max_7cf53 ⟨rfl, ?_⟩)
        refine k_invV (As := [_, _]) dX5_keepTogether_41 mm_X4_put wL_X5_46 ⟨by decide, by decide⟩ hs.2.2.1.1.1 hs.2.2.1.1.2 rfl rfl (Nat.le_of_ble_eq_true rfl) (Nat.zero_le _) (Nat.zero_le _) (m_X4_put hs.2.2.1 (Nat.le_of_ble_eq_true rfl) ⟨rfl, ?_⟩)
        refine k_iinc (nI (j + 1)) (lv' := [(2, _), (1, _), (0, _)]) dX5_keepTogether_44 rfl (kn_inc j) (by decide) rfl ?_
        refine k_goto 16 dX5_keepTogether_47 (by decide) ?_
        rw [kf_at_nI (by omega) (by omega), kf_mapA_at, kf_put_nI _ _ (by omega) (by omega), kf_mapA_succ _ _ _ (fun x => kf_max x (kf_gf σ b m - kf_at (σ (b + 2)) 8 4))]
        exact ih (j + 1) (by omega) (by omega)
  refine k_aload_n 0 dX5_keepTogether_0 rfl rfl ?_
  refine k_invV (As := []) dX5_keepTogether_1 mm_X5_greatestFast wL_X5_172 ⟨by decide, by decide⟩ hs.1.1 hs.1.2 rfl rfl (Nat.le_of_ble_eq_true rfl) (Nat.zero_le _) (Nat.zero_le _) (m_X5_greatestFast hs hcy hm ⟨rfl, ?_⟩)
  refine k_aload_n 0 dX5_keepTogether_4 rfl rfl ?_
  refine k_getfield dX5_keepTogether_5 hc_X5 hs.1.1 hs.1.2 0 (by decide) wF_X5_14 rfl ?_
  refine k_iconst (4) dX5_keepTogether_8 (by decide) ?_
  refine k_invV (As := [_]) dX5_keepTogether_9 mm_X4_at wL_X5_99 ⟨by decide, by decide⟩ hs.2.1.1.1 hs.2.1.1.2 rfl rfl (Nat.le_of_ble_eq_true rfl) (Nat.zero_le _) (Nat.zero_le _) (m_X4_at hs.2.1 (Nat.le_of_ble_eq_true rfl) ⟨rfl, ?_⟩)
  refine k_isub dX5_keepTogether_12 ?_
  refine k_istore_n 1 (lv' := [(1, _), (0, _)]) dX5_keepTogether_13 rfl (by decide) rfl ?_
  refine k_iconst (0) dX5_keepTogether_14 (by decide) ?_
  refine k_istore_n 2 (lv' := [(2, _), (1, _), (0, _)]) dX5_keepTogether_15 rfl (by decide) rfl ?_
  have h9 := lp16 (m + 1) 0 (by omega) (by omega)
  rw [kf_mapA_0] at h9
  exact h9

set_option maxRecDepth 100000 in
set_option maxHeartbeats 4000000 in
theorem m_X5_learn {X : kn_X} {σ : kn_S} {τ : kn_T} {z : kn_Z} {c n : Nat} {Q : kn_Q} {b m : Nat} {x : Int32} (hs : kn_isSt z b) (hcy : σ b 7 = nI m) (hm : 1 ≤ m ∧ m ≤ 8) (hQ : Q (.inl none) (kf_learn σ b m x) τ z) : kn_Ev X MX5_learn [.ref b, .int x] σ τ z c n Q := by
  refine kn_entry (by decide +kernel) rfl (Nat.le_of_ble_eq_true rfl) ?_
  show kn_Go X MX5_learn 0 [(0, .ref b), (1, .int x)] [] _ _ _ _ _ _
  have lp80 : ∀ r9 : Nat, ∀ j : Nat, ∀ (u2 u3 : Int32), Q (.inl none) (kf_learnUp σ b m x) τ z → j ≤ m → m + 1 ≤ j + r9 → kn_Go X MX5_learn 80 [(4, .int (nI j)), (3, .int u3), (2, .int u2), (0, .ref b), (1, .int x)] [] (kf_mapA (kf_put σ (b + 12) 24 x (kf_at (σ (b + 12)) 24 x + 1)) (b + 4) j kf_dec) τ z c n Q := by
    intro r9
    induction r9 with
    | zero =>
      intro j u2 u3 hQ hj0 hr
      exact absurd hr (by omega)
    | succ r9 ih =>
      intro j u2 u3 hQ hj0 hr
      refine k_iload dX5_learn_80 rfl ?_
      refine k_aload_n 0 dX5_learn_82 rfl rfl ?_
      refine k_getfield dX5_learn_83 hc_X5 hs.1.1 hs.1.2 7 (by decide) wF_X5_61 rfl ?_
      refine k_icmpge 101 dX5_learn_86 (by decide) (fun h86 => ?_) (fun h86 => ?_)
      · rw [kf_mapA_ne _ _ _ (by omega), kf_put_ne _ _ _ _ (by omega)] at h86
        have hj := kn_eqj hcy hm.2 hj0 h86
        subst hj
        refine k_aload_n 0 dX5_learn_101 rfl rfl ?_
        refine k_getfield dX5_learn_102 hc_X5 hs.1.1 hs.1.2 6 (by decide) wF_X5_38 rfl ?_
        refine k_iconst (3) dX5_learn_105 (by decide) ?_
        refine k_iload_n 1 dX5_learn_106 rfl rfl ?_
        refine k_aload_n 0 dX5_learn_107 rfl rfl ?_
        refine k_getfield dX5_learn_108 hc_X5 hs.1.1 hs.1.2 13 (by decide) wF_X5_86 rfl ?_
        refine k_invV (As := [_, _, _]) dX5_learn_111 mm_X3_note wL_X5_155 ⟨by decide, by decide⟩ hs.2.2.2.2.2.2.2.1.1 hs.2.2.2.2.2.2.2.1.2 rfl rfl (Nat.le_of_ble_eq_true rfl) (Nat.zero_le _) (Nat.zero_le _) (m_X3_note hs.2.2.2.2.2.2.2 ⟨rfl, ?_⟩)
        refine k_goto 150 dX5_learn_114 (by decide) ?_
        refine k_vret dX5_learn_150 rfl ?_
        exact hQ
      · rw [kf_mapA_ne _ _ _ (by omega), kf_put_ne _ _ _ _ (by omega)] at h86
        have hlt := kn_ltj hcy hm.2 hj0 h86
        refine k_aload_n 0 dX5_learn_89 rfl rfl ?_
        refine k_iload dX5_learn_90 rfl ?_
        refine k_invV (As := [_]) dX5_learn_92 mm_X5_lowerFast wL_X5_169 ⟨by decide, by decide⟩ hs.1.1 hs.1.2 rfl rfl (Nat.le_of_ble_eq_true rfl) (Nat.zero_le _) (Nat.zero_le _) (m_X5_lowerFast hs ⟨rfl, ?_⟩)
        refine k_iinc (nI (j + 1)) (lv' := [(4, _), (3, _), (2, _), (0, _), (1, _)]) dX5_learn_95 rfl (kn_inc j) (by decide) rfl ?_
        refine k_goto 80 dX5_learn_98 (by decide) ?_
        rw [kf_lower_map _ _ _ (by omega)]
        exact ih (j + 1) u2 u3 hQ (by omega) (by omega)
  refine k_aload_n 0 dX5_learn_0 rfl rfl ?_
  refine k_getfield dX5_learn_1 hc_X5 hs.1.1 hs.1.2 7 (by decide) wF_X5_61 rfl ?_
  refine k_ifle 34 dX5_learn_4 (by decide) (fun h4 => ?_) (fun h4 => ?_)
  · refine k_vret dX5_learn_34 rfl ?_
    dsimp only [kf_learn, kf_learnM, kf_learnL] at hQ
    rw [if_pos h4] at hQ
    exact hQ
  · refine k_aload_n 0 dX5_learn_7 rfl rfl ?_
    refine k_getfield dX5_learn_8 hc_X5 hs.1.1 hs.1.2 8 (by decide) wF_X5_71 rfl ?_
    refine k_aload_n 0 dX5_learn_11 rfl rfl ?_
    refine k_getfield dX5_learn_12 hc_X5 hs.1.1 hs.1.2 0 (by decide) wF_X5_14 rfl ?_
    refine k_iconst (5) dX5_learn_15 (by decide) ?_
    refine k_invV (As := [_]) dX5_learn_16 mm_X4_at wL_X5_99 ⟨by decide, by decide⟩ hs.2.1.1.1 hs.2.1.1.2 rfl rfl (Nat.le_of_ble_eq_true rfl) (Nat.zero_le _) (Nat.zero_le _) (m_X4_at hs.2.1 (Nat.le_of_ble_eq_true rfl) ⟨rfl, ?_⟩)
    refine k_icmplt 34 dX5_learn_19 (by decide) (fun h19 => ?_) (fun h19 => ?_)
    · refine k_vret dX5_learn_34 rfl ?_
      dsimp only [kf_learn, kf_learnM, kf_learnL] at hQ
      rw [if_neg h4, if_pos h19] at hQ
      exact hQ
    · refine k_aload_n 0 dX5_learn_22 rfl rfl ?_
      refine k_getfield dX5_learn_23 hc_X5 hs.1.1 hs.1.2 8 (by decide) wF_X5_71 rfl ?_
      refine k_aload_n 0 dX5_learn_26 rfl rfl ?_
      refine k_getfield dX5_learn_27 hc_X5 hs.1.1 hs.1.2 7 (by decide) wF_X5_61 rfl ?_
      refine k_irem dX5_learn_30 (fun h9 => h4 (by rw [h9]; decide)) ?_
      refine k_ifeq 35 dX5_learn_31 (by decide) (fun h31 => ?_) (fun h31 => ?_)
      · refine k_aload_n 0 dX5_learn_35 rfl rfl ?_
        refine k_invV (As := []) dX5_learn_36 mm_X5_sumOfFast wL_X5_176 ⟨by decide, by decide⟩ hs.1.1 hs.1.2 rfl rfl (Nat.le_of_ble_eq_true rfl) (Nat.zero_le _) (Nat.zero_le _) (m_X5_sumOfFast hs hcy hm ⟨rfl, ?_⟩)
        refine k_aload_n 0 dX5_learn_39 rfl rfl ?_
        refine k_getfield dX5_learn_40 hc_X5 hs.1.1 hs.1.2 7 (by decide) wF_X5_61 rfl ?_
        refine k_idiv dX5_learn_43 (fun h9 => h4 (by rw [h9]; decide)) ?_
        refine k_istore_n 2 (lv' := [(2, _), (0, _), (1, _)]) dX5_learn_44 rfl (by decide) rfl ?_
        refine k_aload_n 0 dX5_learn_45 rfl rfl ?_
        refine k_getfield dX5_learn_46 hc_X5 hs.1.1 hs.1.2 5 (by decide) wF_X5_32 rfl ?_
        refine k_iload_n 1 dX5_learn_49 rfl rfl ?_
        refine k_invV (As := [_]) dX5_learn_50 mm_X4_at wL_X5_99 ⟨by decide, by decide⟩ hs.2.2.2.2.2.2.1.1.1 hs.2.2.2.2.2.2.1.1.2 rfl rfl (Nat.le_of_ble_eq_true rfl) (Nat.zero_le _) (Nat.zero_le _) (m_X4_at hs.2.2.2.2.2.2.1 (Nat.le_of_ble_eq_true rfl) ⟨rfl, ?_⟩)
        refine k_istore_n 3 (lv' := [(3, _), (2, _), (0, _), (1, _)]) dX5_learn_53 rfl (by decide) rfl ?_
        refine k_iload_n 2 dX5_learn_54 rfl rfl ?_
        refine k_bipush (20) dX5_learn_55 (by decide) ?_
        refine k_icmple 117 dX5_learn_57 (by decide) (fun h57 => ?_) (fun h57 => ?_)
        · refine k_iload_n 2 dX5_learn_117 rfl rfl ?_
          refine k_iconst (5) dX5_learn_118 (by decide) ?_
          refine k_icmpge 150 dX5_learn_119 (by decide) (fun h119 => ?_) (fun h119 => ?_)
          · refine k_vret dX5_learn_150 rfl ?_
            dsimp only [kf_learn, kf_learnM, kf_learnL] at hQ
            rw [if_neg h4, if_neg h19, if_pos h31, if_pos h57, if_pos h119] at hQ
            exact hQ
          · refine k_iload_n 3 dX5_learn_122 rfl rfl ?_
            refine k_ifle 150 dX5_learn_123 (by decide) (fun h123 => ?_) (fun h123 => ?_)
            · refine k_vret dX5_learn_150 rfl ?_
              dsimp only [kf_learn, kf_learnM, kf_learnL] at hQ
              rw [if_neg h4, if_neg h19, if_pos h31, if_pos h57, if_neg h119, if_pos h123] at hQ
              exact hQ
            · refine k_aload_n 0 dX5_learn_126 rfl rfl ?_
              refine k_getfield dX5_learn_127 hc_X5 hs.1.1 hs.1.2 5 (by decide) wF_X5_32 rfl ?_
              refine k_iload_n 1 dX5_learn_130 rfl rfl ?_
              refine k_iload_n 3 dX5_learn_131 rfl rfl ?_
              refine k_iconst (1) dX5_learn_132 (by decide) ?_
              refine k_isub dX5_learn_133 ?_
              refine k_invV (As := [_, _]) dX5_learn_134 mm_X4_put wL_X5_46 ⟨by decide, by decide⟩ hs.2.2.2.2.2.2.1.1.1 hs.2.2.2.2.2.2.1.1.2 rfl rfl (Nat.le_of_ble_eq_true rfl) (Nat.zero_le _) (Nat.zero_le _) (m_X4_put hs.2.2.2.2.2.2.1 (Nat.le_of_ble_eq_true rfl) ⟨rfl, ?_⟩)
              refine k_aload_n 0 dX5_learn_137 rfl rfl ?_
              refine k_getfield dX5_learn_138 hc_X5 hs.1.1 hs.1.2 6 (by decide) wF_X5_38 rfl ?_
              refine k_iconst (4) dX5_learn_141 (by decide) ?_
              refine k_iload_n 1 dX5_learn_142 rfl rfl ?_
              refine k_aload_n 0 dX5_learn_143 rfl rfl ?_
              refine k_getfield dX5_learn_144 hc_X5 hs.1.1 hs.1.2 13 (by decide) wF_X5_86 rfl ?_
              refine k_invV (As := [_, _, _]) dX5_learn_147 mm_X3_note wL_X5_155 ⟨by decide, by decide⟩ hs.2.2.2.2.2.2.2.1.1 hs.2.2.2.2.2.2.2.1.2 rfl rfl (Nat.le_of_ble_eq_true rfl) (Nat.zero_le _) (Nat.zero_le _) (m_X3_note hs.2.2.2.2.2.2.2 ⟨rfl, ?_⟩)
              refine k_vret dX5_learn_150 rfl ?_
              dsimp only [kf_learn, kf_learnM, kf_learnL] at hQ
              rw [if_neg h4, if_neg h19, if_pos h31, if_pos h57, if_neg h119, if_neg h123] at hQ
              exact hQ
        · refine k_iload_n 3 dX5_learn_60 rfl rfl ?_
          refine k_bipush (100) dX5_learn_61 (by decide) ?_
          refine k_icmpge 117 dX5_learn_63 (by decide) (fun h63 => ?_) (fun h63 => ?_)
          · refine k_iload_n 2 dX5_learn_117 rfl rfl ?_
            refine k_iconst (5) dX5_learn_118 (by decide) ?_
            refine k_icmpge 150 dX5_learn_119 (by decide) (fun h119 => ?_) (fun h119 => ?_)
            · refine k_vret dX5_learn_150 rfl ?_
              dsimp only [kf_learn, kf_learnM, kf_learnL] at hQ
              rw [if_neg h4, if_neg h19, if_pos h31, if_neg h57, if_pos h63, if_pos h119] at hQ
              exact hQ
            · refine k_iload_n 3 dX5_learn_122 rfl rfl ?_
              refine k_ifle 150 dX5_learn_123 (by decide) (fun h123 => ?_) (fun h123 => ?_)
              · refine k_vret dX5_learn_150 rfl ?_
                dsimp only [kf_learn, kf_learnM, kf_learnL] at hQ
                rw [if_neg h4, if_neg h19, if_pos h31, if_neg h57, if_pos h63, if_neg h119, if_pos h123] at hQ
                exact hQ
              · refine k_aload_n 0 dX5_learn_126 rfl rfl ?_
                refine k_getfield dX5_learn_127 hc_X5 hs.1.1 hs.1.2 5 (by decide) wF_X5_32 rfl ?_
                refine k_iload_n 1 dX5_learn_130 rfl rfl ?_
                refine k_iload_n 3 dX5_learn_131 rfl rfl ?_
                refine k_iconst (1) dX5_learn_132 (by decide) ?_
                refine k_isub dX5_learn_133 ?_
                refine k_invV (As := [_, _]) dX5_learn_134 mm_X4_put wL_X5_46 ⟨by decide, by decide⟩ hs.2.2.2.2.2.2.1.1.1 hs.2.2.2.2.2.2.1.1.2 rfl rfl (Nat.le_of_ble_eq_true rfl) (Nat.zero_le _) (Nat.zero_le _) (m_X4_put hs.2.2.2.2.2.2.1 (Nat.le_of_ble_eq_true rfl) ⟨rfl, ?_⟩)
                refine k_aload_n 0 dX5_learn_137 rfl rfl ?_
                refine k_getfield dX5_learn_138 hc_X5 hs.1.1 hs.1.2 6 (by decide) wF_X5_38 rfl ?_
                refine k_iconst (4) dX5_learn_141 (by decide) ?_
                refine k_iload_n 1 dX5_learn_142 rfl rfl ?_
                refine k_aload_n 0 dX5_learn_143 rfl rfl ?_
                refine k_getfield dX5_learn_144 hc_X5 hs.1.1 hs.1.2 13 (by decide) wF_X5_86 rfl ?_
                refine k_invV (As := [_, _, _]) dX5_learn_147 mm_X3_note wL_X5_155 ⟨by decide, by decide⟩ hs.2.2.2.2.2.2.2.1.1 hs.2.2.2.2.2.2.2.1.2 rfl rfl (Nat.le_of_ble_eq_true rfl) (Nat.zero_le _) (Nat.zero_le _) (m_X3_note hs.2.2.2.2.2.2.2 ⟨rfl, ?_⟩)
                refine k_vret dX5_learn_150 rfl ?_
                dsimp only [kf_learn, kf_learnM, kf_learnL] at hQ
                rw [if_neg h4, if_neg h19, if_pos h31, if_neg h57, if_pos h63, if_neg h119, if_neg h123] at hQ
                exact hQ
          · refine k_aload_n 0 dX5_learn_66 rfl rfl ?_
            refine k_getfield dX5_learn_67 hc_X5 hs.1.1 hs.1.2 5 (by decide) wF_X5_32 rfl ?_
            refine k_iload_n 1 dX5_learn_70 rfl rfl ?_
            refine k_iload_n 3 dX5_learn_71 rfl rfl ?_
            refine k_iconst (1) dX5_learn_72 (by decide) ?_
            refine k_iadd dX5_learn_73 ?_
            refine k_invV (As := [_, _]) dX5_learn_74 mm_X4_put wL_X5_46 ⟨by decide, by decide⟩ hs.2.2.2.2.2.2.1.1.1 hs.2.2.2.2.2.2.1.1.2 rfl rfl (Nat.le_of_ble_eq_true rfl) (Nat.zero_le _) (Nat.zero_le _) (m_X4_put hs.2.2.2.2.2.2.1 (Nat.le_of_ble_eq_true rfl) ⟨rfl, ?_⟩)
            refine k_iconst (0) dX5_learn_77 (by decide) ?_
            refine k_istore (lv' := [(4, _), (3, _), (2, _), (0, _), (1, _)]) dX5_learn_78 (by decide) rfl ?_
            dsimp only [kf_learn, kf_learnM, kf_learnL] at hQ
            rw [if_neg h4, if_neg h19, if_pos h31, if_neg h57, if_neg h63] at hQ
            have h9 := fun u2 u3 => lp80 (m + 1) 0 u2 u3 hQ (by omega) (by omega)
            rw [kf_mapA_0] at h9
            exact h9 _ _
      · refine k_vret dX5_learn_34 rfl ?_
        dsimp only [kf_learn, kf_learnM, kf_learnL] at hQ
        rw [if_neg h4, if_neg h19, if_neg h31] at hQ
        exact hQ

set_option maxRecDepth 100000 in
set_option maxHeartbeats 4000000 in
theorem m_X5_restart {X : kn_X} {σ : kn_S} {τ : kn_T} {z : kn_Z} {c n : Nat} {Q : kn_Q} {b : Nat} {x : Int32} (hs : kn_isSt z b) (hQ : Q (.inl none) (kf_restart σ b x) τ z) : kn_Ev X MX5_restart [.ref b, .int x] σ τ z c n Q := by
  refine kn_entry (by decide +kernel) rfl (Nat.le_of_ble_eq_true rfl) ?_
  show kn_Go X MX5_restart 0 [(0, .ref b), (1, .int x)] [] _ _ _ _ _ _
  refine k_aload_n 0 dX5_restart_0 rfl rfl ?_
  refine k_iload_n 1 dX5_restart_1 rfl rfl ?_
  refine k_putfield dX5_restart_2 hc_X5 hs.1.1 hs.1.2 7 (by decide) wF_X5_61 rfl rfl (t9 := .int) (by decide +kernel) rfl rfl ?_
  refine k_aload_n 0 dX5_restart_5 rfl rfl ?_
  refine k_getfield dX5_restart_6 hc_X5 hs.1.1 hs.1.2 1 (by decide) wF_X5_20 rfl ?_
  refine k_iconst (0) dX5_restart_9 (by decide) ?_
  refine k_invV (As := [_]) dX5_restart_10 mm_X4_fill wL_X5_64 ⟨by decide, by decide⟩ hs.2.2.1.1.1 hs.2.2.1.1.2 rfl rfl (Nat.le_of_ble_eq_true rfl) (Nat.zero_le _) (Nat.zero_le _) (m_X4_fill hs.2.2.1 (Nat.le_of_ble_eq_true rfl) ⟨rfl, ?_⟩)
  refine k_aload_n 0 dX5_restart_13 rfl rfl ?_
  refine k_getfield dX5_restart_14 hc_X5 hs.1.1 hs.1.2 2 (by decide) wF_X5_23 rfl ?_
  refine k_ldc dX5_restart_17 wK_X5_67 ?_
  refine k_invV (As := [_]) dX5_restart_19 mm_X4_fill wL_X5_64 ⟨by decide, by decide⟩ hs.2.2.2.1.1.1 hs.2.2.2.1.1.2 rfl rfl (Nat.le_of_ble_eq_true rfl) (Nat.zero_le _) (Nat.zero_le _) (m_X4_fill hs.2.2.2.1 (Nat.le_of_ble_eq_true rfl) ⟨rfl, ?_⟩)
  refine k_aload_n 0 dX5_restart_22 rfl rfl ?_
  refine k_getfield dX5_restart_23 hc_X5 hs.1.1 hs.1.2 3 (by decide) wF_X5_26 rfl ?_
  refine k_iconst (0) dX5_restart_26 (by decide) ?_
  refine k_invV (As := [_]) dX5_restart_27 mm_X4_fill wL_X5_64 ⟨by decide, by decide⟩ hs.2.2.2.2.1.1.1 hs.2.2.2.2.1.1.2 rfl rfl (Nat.le_of_ble_eq_true rfl) (Nat.zero_le _) (Nat.zero_le _) (m_X4_fill hs.2.2.2.2.1 (Nat.le_of_ble_eq_true rfl) ⟨rfl, ?_⟩)
  refine k_aload_n 0 dX5_restart_30 rfl rfl ?_
  refine k_getfield dX5_restart_31 hc_X5 hs.1.1 hs.1.2 4 (by decide) wF_X5_29 rfl ?_
  refine k_iconst (0) dX5_restart_34 (by decide) ?_
  refine k_invV (As := [_]) dX5_restart_35 mm_X4_fill wL_X5_64 ⟨by decide, by decide⟩ hs.2.2.2.2.2.1.1.1 hs.2.2.2.2.2.1.1.2 rfl rfl (Nat.le_of_ble_eq_true rfl) (Nat.zero_le _) (Nat.zero_le _) (m_X4_fill hs.2.2.2.2.2.1 (Nat.le_of_ble_eq_true rfl) ⟨rfl, ?_⟩)
  refine k_aload_n 0 dX5_restart_38 rfl rfl ?_
  refine k_getfield dX5_restart_39 hc_X5 hs.1.1 hs.1.2 5 (by decide) wF_X5_32 rfl ?_
  refine k_iconst (0) dX5_restart_42 (by decide) ?_
  refine k_invV (As := [_]) dX5_restart_43 mm_X4_fill wL_X5_64 ⟨by decide, by decide⟩ hs.2.2.2.2.2.2.1.1.1 hs.2.2.2.2.2.2.1.1.2 rfl rfl (Nat.le_of_ble_eq_true rfl) (Nat.zero_le _) (Nat.zero_le _) (m_X4_fill hs.2.2.2.2.2.2.1 (Nat.le_of_ble_eq_true rfl) ⟨rfl, ?_⟩)
  refine k_aload_n 0 dX5_restart_46 rfl rfl ?_
  refine k_getfield dX5_restart_47 hc_X5 hs.1.1 hs.1.2 6 (by decide) wF_X5_38 rfl ?_
  refine k_invV (As := []) dX5_restart_50 mm_X3_empty wL_X5_68 ⟨by decide, by decide⟩ hs.2.2.2.2.2.2.2.1.1 hs.2.2.2.2.2.2.2.1.2 rfl rfl (Nat.le_of_ble_eq_true rfl) (Nat.zero_le _) (Nat.zero_le _) (m_X3_empty hs.2.2.2.2.2.2.2 ⟨rfl, ?_⟩)
  refine k_aload_n 0 dX5_restart_53 rfl rfl ?_
  refine k_iconst (0) dX5_restart_54 (by decide) ?_
  refine k_putfield dX5_restart_55 hc_X5 hs.1.1 hs.1.2 8 (by decide) wF_X5_71 rfl rfl (t9 := .int) (by decide +kernel) rfl rfl ?_
  refine k_aload_n 0 dX5_restart_58 rfl rfl ?_
  refine k_iconst (-1) dX5_restart_59 (by decide) ?_
  refine k_putfield dX5_restart_60 hc_X5 hs.1.1 hs.1.2 9 (by decide) wF_X5_74 rfl rfl (t9 := .int) (by decide +kernel) rfl rfl ?_
  refine k_aload_n 0 dX5_restart_63 rfl rfl ?_
  refine k_iconst (0) dX5_restart_64 (by decide) ?_
  refine k_putfield dX5_restart_65 hc_X5 hs.1.1 hs.1.2 10 (by decide) wF_X5_77 rfl rfl (t9 := .int) (by decide +kernel) rfl rfl ?_
  refine k_aload_n 0 dX5_restart_68 rfl rfl ?_
  refine k_iconst (0) dX5_restart_69 (by decide) ?_
  refine k_putfield dX5_restart_70 hc_X5 hs.1.1 hs.1.2 11 (by decide) wF_X5_80 rfl rfl (t9 := .int) (by decide +kernel) rfl rfl ?_
  refine k_aload_n 0 dX5_restart_73 rfl rfl ?_
  refine k_iconst (0) dX5_restart_74 (by decide) ?_
  refine k_putfield dX5_restart_75 hc_X5 hs.1.1 hs.1.2 12 (by decide) wF_X5_83 rfl rfl (t9 := .boolean) (by decide +kernel) (rfl) (rfl) ?_
  refine k_aload_n 0 dX5_restart_78 rfl rfl ?_
  refine k_iconst (0) dX5_restart_79 (by decide) ?_
  refine k_putfield dX5_restart_80 hc_X5 hs.1.1 hs.1.2 13 (by decide) wF_X5_86 rfl rfl (t9 := .int) (by decide +kernel) rfl rfl ?_
  refine k_aload_n 0 dX5_restart_83 rfl rfl ?_
  refine k_iconst (0) dX5_restart_84 (by decide) ?_
  refine k_putfield dX5_restart_85 hc_X5 hs.1.1 hs.1.2 14 (by decide) wF_X5_89 rfl rfl (t9 := .int) (by decide +kernel) rfl rfl ?_
  refine k_vret dX5_restart_88 rfl ?_
  exact hQ

set_option maxRecDepth 100000 in
set_option maxHeartbeats 4000000 in
theorem m_X5_copy {X : kn_X} {σ : kn_S} {τ : kn_T} {z : kn_Z} {c n : Nat} {Q : kn_Q} {b b2 : Nat} (hs : kn_isSt z b) (hs2 : kn_isSt z b2) (hb1 : kn_01 (σ b2 12)) (hb2 : kn_01 (σ b2 16)) (hQ : Q (.inl none) (kf_cpySt σ b b2) τ z) : kn_Ev X MX5_copy [.ref b, .ref b2] σ τ z c n Q := by
  refine kn_entry (by decide +kernel) rfl (Nat.le_of_ble_eq_true rfl) ?_
  show kn_Go X MX5_copy 0 [(0, .ref b), (1, .ref b2)] [] _ _ _ _ _ _
  have cut117 : ∀ s9 : kn_S, kn_01 (s9 b2 12) → kn_01 (s9 b2 16) → Q (.inl none) (kf_cs3 s9 b b2) τ z → kn_Go X MX5_copy 117 [(0, .ref b), (1, .ref b2)] [] s9 τ z c n Q := by
    intro s9 h1 h2 hQ
    refine k_aload_n 0 dX5_copy_117 rfl rfl ?_
    refine k_aload_n 1 dX5_copy_118 rfl rfl ?_
    refine k_getfield dX5_copy_119 hc_X5 hs2.1.1 hs2.1.2 12 (by decide) wF_X5_83 rfl ?_
    refine k_putfield dX5_copy_122 hc_X5 hs.1.1 hs.1.2 12 (by decide) wF_X5_83 rfl rfl (t9 := .boolean) (by decide +kernel) (kn_nb h1) (kn_fb h1) ?_
    refine k_aload_n 0 dX5_copy_125 rfl rfl ?_
    refine k_aload_n 1 dX5_copy_126 rfl rfl ?_
    refine k_getfield dX5_copy_127 hc_X5 hs2.1.1 hs2.1.2 13 (by decide) wF_X5_86 rfl ?_
    refine k_putfield dX5_copy_130 hc_X5 hs.1.1 hs.1.2 13 (by decide) wF_X5_86 rfl rfl (t9 := .int) (by decide +kernel) rfl rfl ?_
    refine k_aload_n 0 dX5_copy_133 rfl rfl ?_
    refine k_aload_n 1 dX5_copy_134 rfl rfl ?_
    refine k_getfield dX5_copy_135 hc_X5 hs2.1.1 hs2.1.2 14 (by decide) wF_X5_89 rfl ?_
    refine k_putfield dX5_copy_138 hc_X5 hs.1.1 hs.1.2 14 (by decide) wF_X5_89 rfl rfl (t9 := .int) (by decide +kernel) rfl rfl ?_
    refine k_aload_n 0 dX5_copy_141 rfl rfl ?_
    refine k_aload_n 1 dX5_copy_142 rfl rfl ?_
    refine k_getfield dX5_copy_143 hc_X5 hs2.1.1 hs2.1.2 15 (by decide) wF_X5_50 rfl ?_
    refine k_putfield dX5_copy_146 hc_X5 hs.1.1 hs.1.2 15 (by decide) wF_X5_50 rfl rfl (t9 := .int) (by decide +kernel) rfl rfl ?_
    refine k_aload_n 0 dX5_copy_149 rfl rfl ?_
    refine k_aload_n 1 dX5_copy_150 rfl rfl ?_
    refine k_getfield dX5_copy_151 hc_X5 hs2.1.1 hs2.1.2 16 (by decide) wF_X5_54 rfl ?_
    refine k_putfield dX5_copy_154 hc_X5 hs.1.1 hs.1.2 16 (by decide) wF_X5_54 rfl rfl (t9 := .boolean) (by decide +kernel) (kn_nb (by simpa [kn_up] using h2)) (kn_fb (by simpa [kn_up] using h2)) ?_
    refine k_vret dX5_copy_157 rfl ?_
    exact hQ
  have cut77 : ∀ s9 : kn_S, kn_01 (s9 b2 12) → kn_01 (s9 b2 16) → Q (.inl none) (kf_cs3 (kf_cs2 s9 b b2) b b2) τ z → kn_Go X MX5_copy 77 [(0, .ref b), (1, .ref b2)] [] s9 τ z c n Q := by
    intro s9 h1 h2 hQ
    refine k_aload_n 0 dX5_copy_77 rfl rfl ?_
    refine k_aload_n 1 dX5_copy_78 rfl rfl ?_
    refine k_getfield dX5_copy_79 hc_X5 hs2.1.1 hs2.1.2 7 (by decide) wF_X5_61 rfl ?_
    refine k_putfield dX5_copy_82 hc_X5 hs.1.1 hs.1.2 7 (by decide) wF_X5_61 rfl rfl (t9 := .int) (by decide +kernel) rfl rfl ?_
    refine k_aload_n 0 dX5_copy_85 rfl rfl ?_
    refine k_aload_n 1 dX5_copy_86 rfl rfl ?_
    refine k_getfield dX5_copy_87 hc_X5 hs2.1.1 hs2.1.2 8 (by decide) wF_X5_71 rfl ?_
    refine k_putfield dX5_copy_90 hc_X5 hs.1.1 hs.1.2 8 (by decide) wF_X5_71 rfl rfl (t9 := .int) (by decide +kernel) rfl rfl ?_
    refine k_aload_n 0 dX5_copy_93 rfl rfl ?_
    refine k_aload_n 1 dX5_copy_94 rfl rfl ?_
    refine k_getfield dX5_copy_95 hc_X5 hs2.1.1 hs2.1.2 9 (by decide) wF_X5_74 rfl ?_
    refine k_putfield dX5_copy_98 hc_X5 hs.1.1 hs.1.2 9 (by decide) wF_X5_74 rfl rfl (t9 := .int) (by decide +kernel) rfl rfl ?_
    refine k_aload_n 0 dX5_copy_101 rfl rfl ?_
    refine k_aload_n 1 dX5_copy_102 rfl rfl ?_
    refine k_getfield dX5_copy_103 hc_X5 hs2.1.1 hs2.1.2 10 (by decide) wF_X5_77 rfl ?_
    refine k_putfield dX5_copy_106 hc_X5 hs.1.1 hs.1.2 10 (by decide) wF_X5_77 rfl rfl (t9 := .int) (by decide +kernel) rfl rfl ?_
    refine k_aload_n 0 dX5_copy_109 rfl rfl ?_
    refine k_aload_n 1 dX5_copy_110 rfl rfl ?_
    refine k_getfield dX5_copy_111 hc_X5 hs2.1.1 hs2.1.2 11 (by decide) wF_X5_80 rfl ?_
    refine k_putfield dX5_copy_114 hc_X5 hs.1.1 hs.1.2 11 (by decide) wF_X5_80 rfl rfl (t9 := .int) (by decide +kernel) rfl rfl ?_
    exact cut117 _ (by simpa [kn_up] using h1) (by simpa [kn_up] using h2) hQ
  refine k_aload_n 0 dX5_copy_0 rfl rfl ?_
  refine k_getfield dX5_copy_1 hc_X5 hs.1.1 hs.1.2 0 (by decide) wF_X5_14 rfl ?_
  refine k_aload_n 1 dX5_copy_4 rfl rfl ?_
  refine k_getfield dX5_copy_5 hc_X5 hs2.1.1 hs2.1.2 0 (by decide) wF_X5_14 rfl ?_
  refine k_invV (As := [_]) dX5_copy_8 mm_X4_copy wL_X5_92 ⟨by decide, by decide⟩ hs.2.1.1.1 hs.2.1.1.2 rfl rfl (Nat.le_of_ble_eq_true rfl) (Nat.zero_le _) (Nat.zero_le _) (m_X4_copy hs.2.1 hs2.2.1 (Nat.le_of_ble_eq_true rfl) ⟨rfl, ?_⟩)
  refine k_aload_n 0 dX5_copy_11 rfl rfl ?_
  refine k_getfield dX5_copy_12 hc_X5 hs.1.1 hs.1.2 1 (by decide) wF_X5_20 rfl ?_
  refine k_aload_n 1 dX5_copy_15 rfl rfl ?_
  refine k_getfield dX5_copy_16 hc_X5 hs2.1.1 hs2.1.2 1 (by decide) wF_X5_20 rfl ?_
  refine k_invV (As := [_]) dX5_copy_19 mm_X4_copy wL_X5_92 ⟨by decide, by decide⟩ hs.2.2.1.1.1 hs.2.2.1.1.2 rfl rfl (Nat.le_of_ble_eq_true rfl) (Nat.zero_le _) (Nat.zero_le _) (m_X4_copy hs.2.2.1 hs2.2.2.1 (Nat.le_of_ble_eq_true rfl) ⟨rfl, ?_⟩)
  refine k_aload_n 0 dX5_copy_22 rfl rfl ?_
  refine k_getfield dX5_copy_23 hc_X5 hs.1.1 hs.1.2 2 (by decide) wF_X5_23 rfl ?_
  refine k_aload_n 1 dX5_copy_26 rfl rfl ?_
  refine k_getfield dX5_copy_27 hc_X5 hs2.1.1 hs2.1.2 2 (by decide) wF_X5_23 rfl ?_
  refine k_invV (As := [_]) dX5_copy_30 mm_X4_copy wL_X5_92 ⟨by decide, by decide⟩ hs.2.2.2.1.1.1 hs.2.2.2.1.1.2 rfl rfl (Nat.le_of_ble_eq_true rfl) (Nat.zero_le _) (Nat.zero_le _) (m_X4_copy hs.2.2.2.1 hs2.2.2.2.1 (Nat.le_of_ble_eq_true rfl) ⟨rfl, ?_⟩)
  refine k_aload_n 0 dX5_copy_33 rfl rfl ?_
  refine k_getfield dX5_copy_34 hc_X5 hs.1.1 hs.1.2 3 (by decide) wF_X5_26 rfl ?_
  refine k_aload_n 1 dX5_copy_37 rfl rfl ?_
  refine k_getfield dX5_copy_38 hc_X5 hs2.1.1 hs2.1.2 3 (by decide) wF_X5_26 rfl ?_
  refine k_invV (As := [_]) dX5_copy_41 mm_X4_copy wL_X5_92 ⟨by decide, by decide⟩ hs.2.2.2.2.1.1.1 hs.2.2.2.2.1.1.2 rfl rfl (Nat.le_of_ble_eq_true rfl) (Nat.zero_le _) (Nat.zero_le _) (m_X4_copy hs.2.2.2.2.1 hs2.2.2.2.2.1 (Nat.le_of_ble_eq_true rfl) ⟨rfl, ?_⟩)
  refine k_aload_n 0 dX5_copy_44 rfl rfl ?_
  refine k_getfield dX5_copy_45 hc_X5 hs.1.1 hs.1.2 4 (by decide) wF_X5_29 rfl ?_
  refine k_aload_n 1 dX5_copy_48 rfl rfl ?_
  refine k_getfield dX5_copy_49 hc_X5 hs2.1.1 hs2.1.2 4 (by decide) wF_X5_29 rfl ?_
  refine k_invV (As := [_]) dX5_copy_52 mm_X4_copy wL_X5_92 ⟨by decide, by decide⟩ hs.2.2.2.2.2.1.1.1 hs.2.2.2.2.2.1.1.2 rfl rfl (Nat.le_of_ble_eq_true rfl) (Nat.zero_le _) (Nat.zero_le _) (m_X4_copy hs.2.2.2.2.2.1 hs2.2.2.2.2.2.1 (Nat.le_of_ble_eq_true rfl) ⟨rfl, ?_⟩)
  refine k_aload_n 0 dX5_copy_55 rfl rfl ?_
  refine k_getfield dX5_copy_56 hc_X5 hs.1.1 hs.1.2 5 (by decide) wF_X5_32 rfl ?_
  refine k_aload_n 1 dX5_copy_59 rfl rfl ?_
  refine k_getfield dX5_copy_60 hc_X5 hs2.1.1 hs2.1.2 5 (by decide) wF_X5_32 rfl ?_
  refine k_invV (As := [_]) dX5_copy_63 mm_X4_copy wL_X5_92 ⟨by decide, by decide⟩ hs.2.2.2.2.2.2.1.1.1 hs.2.2.2.2.2.2.1.1.2 rfl rfl (Nat.le_of_ble_eq_true rfl) (Nat.zero_le _) (Nat.zero_le _) (m_X4_copy hs.2.2.2.2.2.2.1 hs2.2.2.2.2.2.2.1 (Nat.le_of_ble_eq_true rfl) ⟨rfl, ?_⟩)
  refine k_aload_n 0 dX5_copy_66 rfl rfl ?_
  refine k_getfield dX5_copy_67 hc_X5 hs.1.1 hs.1.2 6 (by decide) wF_X5_38 rfl ?_
  refine k_aload_n 1 dX5_copy_70 rfl rfl ?_
  refine k_getfield dX5_copy_71 hc_X5 hs2.1.1 hs2.1.2 6 (by decide) wF_X5_38 rfl ?_
  refine k_invV (As := [_]) dX5_copy_74 mm_X3_copy wL_X5_96 ⟨by decide, by decide⟩ hs.2.2.2.2.2.2.2.1.1 hs.2.2.2.2.2.2.2.1.2 rfl rfl (Nat.le_of_ble_eq_true rfl) (Nat.zero_le _) (Nat.zero_le _) (m_X3_copy hs.2.2.2.2.2.2.2 hs2.2.2.2.2.2.2.2 ⟨rfl, ?_⟩)
  exact cut77 (kf_cs1 σ b b2) (by rw [kf_cs1_at hs hs2]; exact hb1) (by rw [kf_cs1_at hs hs2]; exact hb2) hQ

set_option maxRecDepth 100000 in
set_option maxHeartbeats 4000000 in
theorem m_X5_treat {X : kn_X} {σ : kn_S} {τ : kn_T} {z : kn_Z} {c n : Nat} {Q : kn_Q} {b m : Nat} {x y e : Int32} (hs : kn_isSt z b) (hcy : σ b 7 = nI m) (hm : 1 ≤ m ∧ m ≤ 8) (hQ : Q (.inl (some (.int (kf_to σ b x y e)))) (kf_treat σ b m x y e) τ z) : kn_Ev X MX5_treat [.ref b, .int x, .int y, .int e] σ τ z c n Q := by
  refine kn_entry (by decide +kernel) rfl (Nat.le_of_ble_eq_true rfl) ?_
  show kn_Go X MX5_treat 0 [(0, .ref b), (1, .int x), (2, .int y), (3, .int e)] [] _ _ _ _ _ _
  have cut74 : ∀ (s9 : kn_S) (o9 : Int32) (c9 : Int32), Q (.inl (some (.int o9))) (kf_trF s9 b) τ z → kn_Go X MX5_treat 74 [(5, .int o9), (4, .int c9), (0, .ref b), (1, .int x), (2, .int y), (3, .int e)] [] s9 τ z c n Q := by
    intro s9 o9 c9 hQ
    refine k_aload_n 0 dX5_treat_74 rfl rfl ?_
    refine k_dup dX5_treat_75 rfl ?_
    refine k_getfield dX5_treat_76 hc_X5 hs.1.1 hs.1.2 13 (by decide) wF_X5_86 rfl ?_
    refine k_iconst (1) dX5_treat_79 (by decide) ?_
    refine k_iadd dX5_treat_80 ?_
    refine k_putfield dX5_treat_81 hc_X5 hs.1.1 hs.1.2 13 (by decide) wF_X5_86 rfl rfl (t9 := .int) (by decide +kernel) rfl rfl ?_
    refine k_aload_n 0 dX5_treat_84 rfl rfl ?_
    refine k_aload_n 0 dX5_treat_85 rfl rfl ?_
    refine k_getfield dX5_treat_86 hc_X5 hs.1.1 hs.1.2 14 (by decide) wF_X5_89 rfl ?_
    refine k_iconst (1) dX5_treat_89 (by decide) ?_
    refine k_iadd dX5_treat_90 ?_
    refine k_aload_n 0 dX5_treat_91 rfl rfl ?_
    refine k_getfield dX5_treat_92 hc_X5 hs.1.1 hs.1.2 7 (by decide) wF_X5_61 rfl ?_
    refine k_icmpge 107 dX5_treat_95 (by decide) (fun h95 => ?_) (fun h95 => ?_)
    · refine k_iconst (0) dX5_treat_107 (by decide) ?_
      refine k_putfield dX5_treat_108 hc_X5 hs.1.1 hs.1.2 14 (by decide) wF_X5_89 rfl rfl (t9 := .int) (by decide +kernel) rfl rfl ?_
      refine k_iload dX5_treat_111 rfl ?_
      refine k_iret dX5_treat_113 rfl (rfl) ?_
      dsimp only [kf_trF] at hQ
      rw [if_pos h95] at hQ
      exact hQ
    · refine k_aload_n 0 dX5_treat_98 rfl rfl ?_
      refine k_getfield dX5_treat_99 hc_X5 hs.1.1 hs.1.2 14 (by decide) wF_X5_89 rfl ?_
      refine k_iconst (1) dX5_treat_102 (by decide) ?_
      refine k_iadd dX5_treat_103 ?_
      refine k_goto 108 dX5_treat_104 (by decide) ?_
      refine k_putfield dX5_treat_108 hc_X5 hs.1.1 hs.1.2 14 (by decide) wF_X5_89 rfl rfl (t9 := .int) (by decide +kernel) rfl rfl ?_
      refine k_iload dX5_treat_111 rfl ?_
      refine k_iret dX5_treat_113 rfl (rfl) ?_
      dsimp only [kf_trF] at hQ
      rw [if_neg h95] at hQ
      exact hQ
  have cut41 : ∀ (s9 : kn_S), s9 b 7 = nI m → Q (.inl (some (.int (kf_trO s9 b e)))) (kf_trB s9 b m (kf_cell x y) e) τ z → kn_Go X MX5_treat 41 [(4, .int (kf_cell x y)), (0, .ref b), (1, .int x), (2, .int y), (3, .int e)] [] s9 τ z c n Q := by
    intro s9 h7 hQ
    refine k_iconst (2) dX5_treat_41 (by decide) ?_
    refine k_istore (lv' := [(5, _), (4, _), (0, _), (1, _), (2, _), (3, _)]) dX5_treat_42 (by decide) rfl ?_
    refine k_aload_n 0 dX5_treat_44 rfl rfl ?_
    refine k_getfield dX5_treat_45 hc_X5 hs.1.1 hs.1.2 12 (by decide) wF_X5_83 rfl ?_
    refine k_ifne 74 dX5_treat_48 (by decide) (fun h48 => ?_) (fun h48 => ?_)
    · dsimp only [kf_trB, kf_trO] at hQ
      rw [if_neg h48, if_neg h48] at hQ
      exact cut74 _ _ _ hQ
    · refine k_aload_n 0 dX5_treat_51 rfl rfl ?_
      refine k_aload_n 0 dX5_treat_52 rfl rfl ?_
      refine k_getfield dX5_treat_53 hc_X5 hs.1.1 hs.1.2 14 (by decide) wF_X5_89 rfl ?_
      refine k_iload dX5_treat_56 rfl ?_
      refine k_iload_n 3 dX5_treat_58 rfl rfl ?_
      refine k_invV (As := [_, _, _]) dX5_treat_59 mm_X5_listen wL_X5_146 ⟨by decide, by decide⟩ hs.1.1 hs.1.2 rfl rfl (Nat.le_of_ble_eq_true rfl) (Nat.zero_le _) (Nat.zero_le _) (m_X5_listen hs ⟨rfl, ?_⟩)
      refine k_istore (lv' := [(5, _), (4, _), (0, _), (1, _), (2, _), (3, _)]) dX5_treat_62 (by decide) rfl ?_
      refine k_aload_n 0 dX5_treat_64 rfl rfl ?_
      refine k_invV (As := []) dX5_treat_65 mm_X5_keepTogether wL_X5_149 ⟨by decide, by decide⟩ hs.1.1 hs.1.2 rfl rfl (Nat.le_of_ble_eq_true rfl) (Nat.zero_le _) (Nat.zero_le _) (m_X5_keepTogether (m := m) hs (by rw [kf_listen_b]; exact h7) hm ⟨rfl, ?_⟩)
      refine k_aload_n 0 dX5_treat_68 rfl rfl ?_
      refine k_iload dX5_treat_69 rfl ?_
      refine k_invV (As := [_]) dX5_treat_71 mm_X5_learn wL_X5_152 ⟨by decide, by decide⟩ hs.1.1 hs.1.2 rfl rfl (Nat.le_of_ble_eq_true rfl) (Nat.zero_le _) (Nat.zero_le _) (m_X5_learn (m := m) hs (by rw [kf_keep_b, kf_listen_b]; exact h7) hm ⟨rfl, ?_⟩)
      dsimp only [kf_trB, kf_trO] at hQ
      rw [if_pos h48, if_pos h48] at hQ
      exact cut74 _ _ _ hQ
  refine k_iload_n 1 dX5_treat_0 rfl rfl ?_
  refine k_iload_n 2 dX5_treat_1 rfl rfl ?_
  refine k_invS (As := [_, _]) dX5_treat_2 mm_X0_cellOf wL_X5_117 ⟨by decide, by decide⟩ rfl rfl (Nat.le_of_ble_eq_true rfl) (Nat.zero_le _) (Nat.zero_le _) (m_X0_cellOf ⟨rfl, ?_⟩)
  refine k_istore (lv' := [(4, _), (0, _), (1, _), (2, _), (3, _)]) dX5_treat_5 (by decide) rfl ?_
  refine k_aload_n 0 dX5_treat_7 rfl rfl ?_
  refine k_iload_n 3 dX5_treat_8 rfl rfl ?_
  refine k_invV (As := [_]) dX5_treat_9 mm_X5_watchSensor wL_X5_143 ⟨by decide, by decide⟩ hs.1.1 hs.1.2 rfl rfl (Nat.le_of_ble_eq_true rfl) (Nat.zero_le _) (Nat.zero_le _) (m_X5_watchSensor hs ⟨rfl, ?_⟩)
  refine k_aload_n 0 dX5_treat_12 rfl rfl ?_
  refine k_iload dX5_treat_13 rfl ?_
  refine k_aload_n 0 dX5_treat_15 rfl rfl ?_
  refine k_getfield dX5_treat_16 hc_X5 hs.1.1 hs.1.2 9 (by decide) wF_X5_74 rfl ?_
  refine k_icmpne 31 dX5_treat_19 (by decide) (fun h19 => ?_) (fun h19 => ?_)
  · refine k_iconst (0) dX5_treat_31 (by decide) ?_
    refine k_putfield dX5_treat_32 hc_X5 hs.1.1 hs.1.2 8 (by decide) wF_X5_71 rfl rfl (t9 := .int) (by decide +kernel) rfl rfl ?_
    refine k_aload_n 0 dX5_treat_35 rfl rfl ?_
    refine k_iload dX5_treat_36 rfl ?_
    refine k_putfield dX5_treat_38 hc_X5 hs.1.1 hs.1.2 9 (by decide) wF_X5_74 rfl rfl (t9 := .int) (by decide +kernel) rfl rfl ?_
    have h7 := (kf_trA_b σ b (kf_cell x y) e (k := 7) (by decide) (by decide) (by decide) (by decide) (by decide)).trans hcy
    dsimp only [kf_treat, kf_to, kf_trA] at hQ h7
    rw [if_neg h19] at hQ h7
    exact cut41 _ h7 hQ
  · refine k_aload_n 0 dX5_treat_22 rfl rfl ?_
    refine k_getfield dX5_treat_23 hc_X5 hs.1.1 hs.1.2 8 (by decide) wF_X5_71 rfl ?_
    refine k_iconst (1) dX5_treat_26 (by decide) ?_
    refine k_iadd dX5_treat_27 ?_
    refine k_goto 32 dX5_treat_28 (by decide) ?_
    refine k_putfield dX5_treat_32 hc_X5 hs.1.1 hs.1.2 8 (by decide) wF_X5_71 rfl rfl (t9 := .int) (by decide +kernel) rfl rfl ?_
    refine k_aload_n 0 dX5_treat_35 rfl rfl ?_
    refine k_iload dX5_treat_36 rfl ?_
    refine k_putfield dX5_treat_38 hc_X5 hs.1.1 hs.1.2 9 (by decide) wF_X5_74 rfl rfl (t9 := .int) (by decide +kernel) rfl rfl ?_
    have h7 := (kf_trA_b σ b (kf_cell x y) e (k := 7) (by decide) (by decide) (by decide) (by decide) (by decide)).trans hcy
    dsimp only [kf_treat, kf_to, kf_trA] at hQ h7
    rw [if_pos h19] at hQ h7
    exact cut41 _ h7 hQ

set_option maxRecDepth 100000 in
set_option maxHeartbeats 4000000 in
theorem m_X5_treatModelled {X : kn_X} {σ : kn_S} {τ : kn_T} {z : kn_Z} {c n : Nat} {Q : kn_Q} {b m : Nat} {x y w : Int32} (hs : kn_isSt z b) (hcy : σ b 7 = nI m) (hm : 1 ≤ m ∧ m ≤ 8) (hQ : Q (.inl (some (.int (kf_mo σ b x y w)))) (kf_mod σ b m x y w) τ z) : kn_Ev X MX5_treatModelled [.ref b, .int x, .int y, .int w] σ τ z c n Q := by
  refine kn_entry (by decide +kernel) rfl (Nat.le_of_ble_eq_true rfl) ?_
  show kn_Go X MX5_treatModelled 0 [(0, .ref b), (1, .int x), (2, .int y), (3, .int w)] [] _ _ _ _ _ _
  refine k_aload_n 0 dX5_treatModelled_0 rfl rfl ?_
  refine k_ldc2 dX5_treatModelled_1 wK_X5_126 ?_
  refine k_aload_n 0 dX5_treatModelled_4 rfl rfl ?_
  refine k_getfield dX5_treatModelled_5 hc_X5 hs.1.1 hs.1.2 15 (by decide) wF_X5_50 rfl ?_
  refine k_i2l dX5_treatModelled_8 ?_
  refine k_lmul dX5_treatModelled_9 ?_
  refine k_ldc2 dX5_treatModelled_10 wK_X5_128 ?_
  refine k_ladd dX5_treatModelled_13 ?_
  refine k_ldc2 dX5_treatModelled_14 wK_X5_130 ?_
  refine k_lrem dX5_treatModelled_17 (by decide) ?_
  refine k_l2i dX5_treatModelled_18 ?_
  refine k_putfield dX5_treatModelled_19 hc_X5 hs.1.1 hs.1.2 15 (by decide) wF_X5_50 rfl rfl (t9 := .int) (by decide +kernel) rfl rfl ?_
  refine k_aload_n 0 dX5_treatModelled_22 rfl rfl ?_
  refine k_getfield dX5_treatModelled_23 hc_X5 hs.1.1 hs.1.2 16 (by decide) wF_X5_54 rfl ?_
  refine k_ifeq 37 dX5_treatModelled_26 (by decide) (fun h26 => ?_) (fun h26 => ?_)
  · refine k_aload_n 0 dX5_treatModelled_37 rfl rfl ?_
    refine k_getfield dX5_treatModelled_38 hc_X5 hs.1.1 hs.1.2 15 (by decide) wF_X5_50 rfl ?_
    refine k_ldc dX5_treatModelled_41 wK_X5_136 ?_
    refine k_idiv dX5_treatModelled_43 (by decide) ?_
    refine k_bipush (40) dX5_treatModelled_44 (by decide) ?_
    refine k_irem dX5_treatModelled_46 (by decide) ?_
    refine k_istore (lv' := [(4, _), (0, _), (1, _), (2, _), (3, _)]) dX5_treatModelled_47 (by decide) rfl ?_
    refine k_aload_n 0 dX5_treatModelled_49 rfl rfl ?_
    refine k_aload_n 0 dX5_treatModelled_50 rfl rfl ?_
    refine k_getfield dX5_treatModelled_51 hc_X5 hs.1.1 hs.1.2 14 (by decide) wF_X5_89 rfl ?_
    refine k_iload_n 1 dX5_treatModelled_54 rfl rfl ?_
    refine k_iload_n 2 dX5_treatModelled_55 rfl rfl ?_
    refine k_invV (As := [_, _, _]) dX5_treatModelled_56 mm_X5_advanceOf wL_X5_137 ⟨by decide, by decide⟩ hs.1.1 hs.1.2 rfl rfl (Nat.le_of_ble_eq_true rfl) (Nat.zero_le _) (Nat.zero_le _) (m_X5_advanceOf hs ⟨rfl, ?_⟩)
    refine k_iload_n 1 dX5_treatModelled_59 rfl rfl ?_
    refine k_iload_n 2 dX5_treatModelled_60 rfl rfl ?_
    refine k_iload_n 3 dX5_treatModelled_61 rfl rfl ?_
    refine k_invS (As := [_, _, _]) dX5_treatModelled_62 mm_X0_knockLimit wL_X5_140 ⟨by decide, by decide⟩ rfl rfl (Nat.le_of_ble_eq_true rfl) (Nat.zero_le _) (Nat.zero_le _) (m_X0_knockLimit ⟨rfl, ?_⟩)
    refine k_isub dX5_treatModelled_65 ?_
    refine k_istore (lv' := [(5, _), (4, _), (0, _), (1, _), (2, _), (3, _)]) dX5_treatModelled_66 (by decide) rfl ?_
    refine k_iload_n 1 dX5_treatModelled_68 rfl rfl ?_
    refine k_bipush (20) dX5_treatModelled_69 (by decide) ?_
    refine k_idiv dX5_treatModelled_71 (by decide) ?_
    refine k_iload_n 2 dX5_treatModelled_72 rfl rfl ?_
    refine k_iadd dX5_treatModelled_73 ?_
    refine k_iload dX5_treatModelled_74 rfl ?_
    refine k_iadd dX5_treatModelled_76 ?_
    refine k_bipush (12) dX5_treatModelled_77 (by decide) ?_
    refine k_iload dX5_treatModelled_79 rfl ?_
    refine k_iconst (0) dX5_treatModelled_81 (by decide) ?_
    refine k_invS (As := [_, _]) dX5_treatModelled_82 mm_J9_max_7cf53 wL_X5_123 ⟨by decide, by decide⟩ rfl rfl (Nat.le_of_ble_eq_true rfl) (Nat.zero_le _) (Nat.zero_le _) (m_J9_max_7cf53 ⟨rfl, ?_⟩)
    refine k_imul dX5_treatModelled_85 ?_
    refine k_iadd dX5_treatModelled_86 ?_
    refine k_istore (lv' := [(6, _), (5, _), (4, _), (0, _), (1, _), (2, _), (3, _)]) dX5_treatModelled_87 (by decide) rfl ?_
    refine k_aload_n 0 dX5_treatModelled_89 rfl rfl ?_
    refine k_iload_n 1 dX5_treatModelled_90 rfl rfl ?_
    refine k_iload_n 2 dX5_treatModelled_91 rfl rfl ?_
    refine k_iload dX5_treatModelled_92 rfl ?_
    refine k_sipush (20000) dX5_treatModelled_94 (by decide) ?_
    refine k_invS (As := [_, _]) dX5_treatModelled_97 mm_J9_min_7cf53 wL_X5_106 ⟨by decide, by decide⟩ rfl rfl (Nat.le_of_ble_eq_true rfl) (Nat.zero_le _) (Nat.zero_le _) (m_J9_min_7cf53 ⟨rfl, ?_⟩)
    refine k_invV (As := [_, _, _]) dX5_treatModelled_100 mm_X5_treat wL_X5_132 ⟨by decide, by decide⟩ hs.1.1 hs.1.2 rfl rfl (Nat.le_of_ble_eq_true rfl) (Nat.zero_le _) (Nat.zero_le _) (m_X5_treat (m := m) hs (by simpa [kn_up] using hcy) hm ⟨rfl, ?_⟩)
    refine k_iret dX5_treatModelled_103 rfl (rfl) ?_
    dsimp only [kf_mo, kf_mod, kf_me, kf_s15, kf_rnd] at hQ
    rw [if_pos h26] at hQ
    exact hQ
  · refine k_aload_n 0 dX5_treatModelled_29 rfl rfl ?_
    refine k_iload_n 1 dX5_treatModelled_30 rfl rfl ?_
    refine k_iload_n 2 dX5_treatModelled_31 rfl rfl ?_
    refine k_iconst (0) dX5_treatModelled_32 (by decide) ?_
    refine k_invV (As := [_, _, _]) dX5_treatModelled_33 mm_X5_treat wL_X5_132 ⟨by decide, by decide⟩ hs.1.1 hs.1.2 rfl rfl (Nat.le_of_ble_eq_true rfl) (Nat.zero_le _) (Nat.zero_le _) (m_X5_treat (m := m) hs (by simpa [kn_up] using hcy) hm ⟨rfl, ?_⟩)
    refine k_iret dX5_treatModelled_36 rfl (rfl) ?_
    dsimp only [kf_mo, kf_mod, kf_me, kf_s15, kf_rnd] at hQ
    rw [if_neg h26] at hQ
    exact hQ

