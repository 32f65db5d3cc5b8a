-- the law's small methods
theorem kr_lcmp (x : Int64) : lg_cmp x x = 0 := by
  unfold lg_cmp
  rw [if_neg (by intro h; rw [gt_iff_lt, Int64.lt_iff_toInt_lt] at h; omega), if_pos rfl]
theorem kw_low31 (x : Int32) {n : Nat} (h0 : 0 < n) (hn : n < 2 ^ 31) : ∃ j : Nat, j < n ∧ (x &&& 2147483647) - (x &&& 2147483647) / nI n * nI n = nI j := by
  rw [pk_and x (m := 2147483647) 31 (by decide)]
  have := Nat.mod_lt x.toBitVec.toNat (show 0 < 2 ^ 31 by decide)
  generalize x.toBitVec.toNat % 2 ^ 31 = a at this
  exact ⟨a % n, Nat.mod_lt _ h0, pk_rem this h0 hn⟩
/-- what the law prints of a row -/
def kw_p1 (g : Nat → Int32) (m : Nat) (h : Int64) : Nat → Int64
  | 0 => h
  | k + 1 => 31 * (31 * kw_p1 g m h k + (kw_val g m k).toInt64) + (kw_sta g (k % 5)).toInt64
def kw_p2i (g : Nat → Int32) (c : Nat) (h : Int64) : Nat → Int64
  | 0 => h
  | w + 1 => 31 * kw_p2i g c h w + (kw_cyl g c w).toInt64
def kw_p2 (g : Nat → Int32) (h : Int64) : Nat → Int64
  | 0 => h
  | c + 1 => kw_p2i g c (kw_p2 g h c) 5
def kw_p3 (g : Nat → Int32) (h : Int64) : Nat → Int64
  | 0 => h
  | k + 1 => 31 * kw_p3 g h k + (g (49 + (4 * (k / 4) + k % 4))).toInt64
def kw_p4 (g : Nat → Int32) (h : Int64) : Nat → Int64
  | 0 => h
  | k + 1 => 31 * (31 * (31 * kw_p4 g h k + (g (74 + 3 * k + 0)).toInt64) + (g (74 + 3 * k + 1)).toInt64) + (g (74 + 3 * k + 2)).toInt64
def kw_p0 (g : Nat → Int32) (m fi : Nat) : Int64 := 31 * (31 * (nI fi).toInt64 + (g 73).toInt64) + (nI (fi % m)).toInt64
def kw_q1 (g : Nat → Int32) (m fi : Nat) : Int64 := kw_p1 g m (kw_p0 g m fi) 9
def kw_q2 (g : Nat → Int32) (m fi : Nat) : Int64 := kw_p2 g (kw_q1 g m fi) m
def kw_q3 (g : Nat → Int32) (m fi : Nat) : Int64 := kw_p3 g (kw_q2 g m fi) 24
def kw_pr (g : Nat → Int32) (m fi lc : Nat) : Int64 := kw_p4 g (kw_q3 g m fi) lc
theorem kw_p1_0 (g : Nat → Int32) (m : Nat) (h : Int64) : kw_p1 g m h 0 = h := rfl
theorem kw_p2i_0 (g : Nat → Int32) (c : Nat) (h : Int64) : kw_p2i g c h 0 = h := rfl
theorem kw_p2_0 (g : Nat → Int32) (h : Int64) : kw_p2 g h 0 = h := rfl
theorem kw_p3_0 (g : Nat → Int32) (h : Int64) : kw_p3 g h 0 = h := rfl
theorem kw_p4_0 (g : Nat → Int32) (h : Int64) : kw_p4 g h 0 = h := rfl
theorem kw_p1_s (g : Nat → Int32) (m : Nat) (h : Int64) (k : Nat) : kw_p1 g m h (k + 1) = 31 * (31 * kw_p1 g m h k + (kw_val g m k).toInt64) + (kw_sta g (k % 5)).toInt64 := rfl
theorem kw_p2i_s (g : Nat → Int32) (c : Nat) (h : Int64) (w : Nat) : kw_p2i g c h (w + 1) = 31 * kw_p2i g c h w + (kw_cyl g c w).toInt64 := rfl
theorem kw_p2_s (g : Nat → Int32) (h : Int64) (c : Nat) : kw_p2 g h (c + 1) = kw_p2i g c (kw_p2 g h c) 5 := rfl
theorem kw_p3_s (g : Nat → Int32) (h : Int64) (k : Nat) : kw_p3 g h (k + 1) = 31 * kw_p3 g h k + (g (49 + (4 * (k / 4) + k % 4))).toInt64 := rfl
theorem kw_p4_s (g : Nat → Int32) (h : Int64) (k : Nat) : kw_p4 g h (k + 1) = 31 * (31 * (31 * kw_p4 g h k + (g (74 + 3 * k + 0)).toInt64) + (g (74 + 3 * k + 1)).toInt64) + (g (74 + 3 * k + 2)).toInt64 := rfl
theorem kw_div {k d : Nat} (hk : k < 1000000000) (h0 : 0 < d) (hd : d < 2 ^ 31) : nI k / nI d = nI (k / d) := pk_div (by omega) h0 hd
theorem kw_mod_ {k d : Nat} (hk : k < 1000000000) (h0 : 0 < d) (hd : d < 2 ^ 31) : nI k - nI k / nI d * nI d = nI (k % d) := pk_rem (by omega) h0 hd

set_option maxRecDepth 100000 in
set_option maxHeartbeats 4000000 in
theorem m_L_cell {X : kn_X} {σ : kn_S} {τ : kn_T} {z : kn_Z} {Q : kn_Q} {k : Nat} (hX : X.1 < 2 ^ 31) (hk : k < 2 ^ 31) (hQ : ∀ v : Int32, Q (.inl (some (.int v))) σ τ z) : kn_Ev X ML_cell [.retAddr 0, .int (nI k)] σ τ z 0 0 Q := by
  refine kn_entry (by decide +kernel) rfl (Nat.le_of_ble_eq_true rfl) ?_
  show kn_Go X ML_cell 0 [(0, .retAddr 0), (1, .int (nI k))] [] _ _ _ _ _ _
  refine k_iload_n 1 dL_cell_0 rfl rfl ?_
  refine k_aload_nR 0 dL_cell_1 rfl rfl ?_
  refine k_rolen dL_cell_2 (by decide) ?_
  refine k_icmpge 12 dL_cell_3 (by decide) (fun h3 => ?_) (fun h3 => ?_)
  · refine k_ldc dL_cell_12 wK_L_7 ?_
    refine k_iload_n 1 dL_cell_14 rfl rfl ?_
    refine k_iconst (1) dL_cell_15 (by decide) ?_
    refine k_iadd dL_cell_16 ?_
    refine k_imul dL_cell_17 ?_
    refine k_iret dL_cell_18 rfl (rfl) ?_
    exact hQ _
  · refine k_aload_nR 0 dL_cell_6 rfl rfl ?_
    refine k_iload_n 1 dL_cell_7 rfl rfl ?_
    refine k_roload dL_cell_8 (by decide) (vp_in_nI (n := k) ((nI_ltI hk hX).mp (by rw [Int32.lt_iff_toInt_lt]; rw [Int32.le_iff_toInt_le] at h3; exact Int.not_le.mp h3)) hX) ?_
    refine k_goto 18 dL_cell_9 (by decide) ?_
    refine k_iret dL_cell_18 rfl (rfl) ?_
    exact hQ _

set_option maxRecDepth 100000 in
set_option maxHeartbeats 4000000 in
theorem m_L_low {X : kn_X} {σ : kn_S} {τ : kn_T} {z : kn_Z} {Q : kn_Q} {x : Int32} {k : Nat} (h0 : 0 < k) (hk : k < 2 ^ 31) (hQ : ∀ j : Nat, j < k → Q (.inl (some (.int (nI j)))) σ τ z) : kn_Ev X ML_low [.int x, .int (nI k)] σ τ z 0 0 Q := by
  refine kn_entry (by decide +kernel) rfl (Nat.le_of_ble_eq_true rfl) ?_
  show kn_Go X ML_low 0 [(0, .int x), (1, .int (nI k))] [] _ _ _ _ _ _
  refine k_iload_n 0 dL_low_0 rfl rfl ?_
  refine k_ldc dL_low_1 wK_L_8 ?_
  refine k_iand dL_low_3 ?_
  refine k_iload_n 1 dL_low_4 rfl rfl ?_
  refine k_irem dL_low_5 (nI_ne0 h0 hk) ?_
  obtain ⟨j, hj, e⟩ := kw_low31 x h0 hk
  rw [e]
  refine k_iret dL_low_6 rfl (rfl) ?_
  exact hQ j hj

set_option maxRecDepth 100000 in
set_option maxHeartbeats 4000000 in
theorem m_L_print {X : kn_X} {σ : kn_S} {τ : kn_T} {z : kn_Z} {Q : kn_Q} {m fi lc : Nat} {g : Nat → Int32} (hK : kn_isK z) (h : kr_R σ 1 g m fi) (hl : g 73 = nI lc) (hlc : lc ≤ 60) (hQ : Q (.inl (some (.long (kw_pr g m fi lc)))) σ τ z) : kn_Ev X ML_print [.ref 0] σ τ z 600 3600 Q := by
  have hm := h.1.2.2.1.2
  refine kn_entry (by decide +kernel) rfl (Nat.le_of_ble_eq_true rfl) ?_
  show kn_Go X ML_print 0 [(0, .ref 0)] [] _ _ _ _ _ _
  have lp148 : ∀ r9 : Nat, ∀ (k : Nat) (v : Int64), k + r9 = lc → v = kw_p4 g (kw_q3 g m fi) k → kn_Go X ML_print 148 [(3, .int (nI k)), (1, .long v), (0, .ref 0)] [] σ τ z (6 * r9) (36 * r9) Q := by
    intro r9
    induction r9 with
    | zero =>
      intro k v hk hv
      obtain rfl : k = lc := by omega
      refine k_iload_n 3 dL_print_148 rfl rfl ?_
      refine k_aload_n 0 dL_print_149 rfl rfl ?_
      refine k_invV (As := []) dL_print_150 mm_X6_events wL_L_95 ⟨by decide, by decide⟩ hK.1.1 hK.1.2 rfl rfl (Nat.le_of_ble_eq_true rfl) (Nat.zero_le _) (Nat.zero_le _) (cw_events hK h ⟨rfl, ?_⟩)
      rw [hl]
      refine k_icmpge 200 dL_print_153 (by decide) (fun h153 => ?_) (fun h153 => ?_)
      · refine k_lload_n 1 dL_print_200 rfl rfl ?_
        refine k_lret dL_print_201 rfl ?_
        rw [hv]
        exact hQ
      · exact absurd (nI_le (Nat.le_refl k) (by omega)) h153
    | succ r9 ih =>
      intro k v hk hv
      refine k_iload_n 3 dL_print_148 rfl rfl ?_
      refine k_aload_n 0 dL_print_149 rfl rfl ?_
      refine k_invV (As := []) dL_print_150 mm_X6_events wL_L_95 ⟨by decide, by decide⟩ hK.1.1 hK.1.2 rfl rfl (Nat.le_of_ble_eq_true rfl) (Nat.zero_le _) (Nat.zero_le _) (cw_events hK h ⟨rfl, ?_⟩)
      rw [hl]
      refine k_icmpge 200 dL_print_153 (by decide) (fun h153 => ?_) (fun h153 => ?_)
      · exact absurd h153 (nI_ge (by omega) (by omega))
      · refine k_ldc2 dL_print_156 wK_L_90 ?_
        refine k_ldc2 dL_print_159 wK_L_90 ?_
        refine k_ldc2 dL_print_162 wK_L_90 ?_
        refine k_lload_n 1 dL_print_165 rfl rfl ?_
        refine k_lmul dL_print_166 ?_
        refine k_aload_n 0 dL_print_167 rfl rfl ?_
        refine k_iload_n 3 dL_print_168 rfl rfl ?_
        refine k_iconst (0) dL_print_169 (by decide) ?_
        refine k_invSH2 (6 * r9 + 4) (36 * r9 + 24) (As := [_, _, _]) dL_print_170 mm_L_event wL_L_113 ⟨by decide, by decide⟩ rfl rfl (Nat.le_of_ble_eq_true rfl) (by omega) (by omega) (cw_event (w := 0) hK h hl hlc (by omega) (by omega) ⟨rfl, ?_⟩)
        refine k_i2l dL_print_173 ?_
        refine k_ladd dL_print_174 ?_
        refine k_lmul dL_print_175 ?_
        refine k_aload_n 0 dL_print_176 rfl rfl ?_
        refine k_iload_n 3 dL_print_177 rfl rfl ?_
        refine k_iconst (1) dL_print_178 (by decide) ?_
        refine k_invSH2 (6 * r9 + 2) (36 * r9 + 12) (As := [_, _, _]) dL_print_179 mm_L_event wL_L_113 ⟨by decide, by decide⟩ rfl rfl (Nat.le_of_ble_eq_true rfl) (by omega) (by omega) (cw_event (w := 1) hK h hl hlc (by omega) (by omega) ⟨rfl, ?_⟩)
        refine k_i2l dL_print_182 ?_
        refine k_ladd dL_print_183 ?_
        refine k_lmul dL_print_184 ?_
        refine k_aload_n 0 dL_print_185 rfl rfl ?_
        refine k_iload_n 3 dL_print_186 rfl rfl ?_
        refine k_iconst (2) dL_print_187 (by decide) ?_
        refine k_invSH2 (6 * r9) (36 * r9) (As := [_, _, _]) dL_print_188 mm_L_event wL_L_113 ⟨by decide, by decide⟩ rfl rfl (Nat.le_of_ble_eq_true rfl) (by omega) (by omega) (cw_event (w := 2) hK h hl hlc (by omega) (by omega) ⟨rfl, ?_⟩)
        refine k_i2l dL_print_191 ?_
        refine k_ladd dL_print_192 ?_
        refine k_lstore_n 1 (lv' := [(1, _), (3, _), (0, _)]) dL_print_193 rfl (by decide) rfl ?_
        refine k_iinc (nI (k + 1)) (lv' := [(3, _), (1, _), (0, _)]) dL_print_194 rfl (kn_inc k) (by decide) rfl ?_
        refine k_goto 148 dL_print_197 (by decide) ?_
        refine k_room (c' := 6 * r9) (n' := 36 * r9) (by omega) (by omega) (ih (k + 1) _ (by omega) ?_)
        rw [kw_p4_s, ← hv]
  have lp116 : ∀ r9 : Nat, ∀ (k : Nat) (v : Int64), k + r9 = 24 → v = kw_p3 g (kw_q2 g m fi) k → kn_Go X ML_print 116 [(3, .int (nI k)), (1, .long v), (0, .ref 0)] [] σ τ z (2 * r9 + 360) (12 * r9 + 2160) Q := by
    intro r9
    induction r9 with
    | zero =>
      intro k v hk hv
      obtain rfl : k = 24 := by omega
      refine k_iload_n 3 dL_print_116 rfl rfl ?_
      refine k_bipush (24) dL_print_117 (by decide) ?_
      refine k_icmpge 146 dL_print_119 (by decide) (fun h119 => ?_) (fun h119 => ?_)
      · refine k_iconst (0) dL_print_146 (by decide) ?_
        refine k_istore_n 3 (lv' := [(3, _), (1, _), (0, _)]) dL_print_147 rfl (by decide) rfl ?_
        refine k_room (c' := 6 * lc) (n' := 36 * lc) (by omega) (by omega) (lp148 lc 0 _ (Nat.zero_add _) ?_)
        rw [kw_p4_0]
        exact hv
      · exact absurd (show (24 : Int32) ≤ nI 24 from nI_le (Nat.le_refl 24) (by decide)) h119
    | succ r9 ih =>
      intro k v hk hv
      refine k_iload_n 3 dL_print_116 rfl rfl ?_
      refine k_bipush (24) dL_print_117 (by decide) ?_
      refine k_icmpge 146 dL_print_119 (by decide) (fun h119 => ?_) (fun h119 => ?_)
      · exact absurd h119 (show ¬ (24 : Int32) ≤ nI k from nI_ge (a := k) (b := 24) (by omega) (by decide))
      · refine k_ldc2 dL_print_122 wK_L_90 ?_
        refine k_lload_n 1 dL_print_125 rfl rfl ?_
        refine k_lmul dL_print_126 ?_
        refine k_aload_n 0 dL_print_127 rfl rfl ?_
        refine k_iload_n 3 dL_print_128 rfl rfl ?_
        refine k_iconst (4) dL_print_129 (by decide) ?_
        refine k_idiv dL_print_130 (by decide) ?_
        refine k_iload_n 3 dL_print_131 rfl rfl ?_
        refine k_iconst (4) dL_print_132 (by decide) ?_
        refine k_irem dL_print_133 (by decide) ?_
        rw [show nI k / 4 = nI (k / 4) from kw_div (d := 4) (by omega) (by decide) (by decide), show nI k - nI (k / 4) * 4 = nI (k % 4) from by rw [← kw_div (d := 4) (by omega) (by decide) (by decide)]; exact kw_mod_ (d := 4) (by omega) (by decide) (by decide)]
        refine k_invSH2 (2 * r9 + 360) (12 * r9 + 2160) (As := [_, _, _]) dL_print_134 mm_L_learned wL_L_111 ⟨by decide, by decide⟩ rfl rfl (Nat.le_of_ble_eq_true rfl) (by omega) (by omega) (cw_learned hK h (by omega) (by omega) ⟨rfl, ?_⟩)
        refine k_i2l dL_print_137 ?_
        refine k_ladd dL_print_138 ?_
        refine k_lstore_n 1 (lv' := [(1, _), (3, _), (0, _)]) dL_print_139 rfl (by decide) rfl ?_
        refine k_iinc (nI (k + 1)) (lv' := [(3, _), (1, _), (0, _)]) dL_print_140 rfl (kn_inc k) (by decide) rfl ?_
        refine k_goto 116 dL_print_143 (by decide) ?_
        refine k_room (c' := 2 * r9 + 360) (n' := 12 * r9 + 2160) (by omega) (by omega) (ih (k + 1) _ (by omega) ?_)
        rw [kw_p3_s, ← hv]
  have lp81 : ∀ r9 : Nat, ∀ (C N c w : Nat) (h0 v : Int64), c < m → w + r9 = 5 → v = kw_p2i g c h0 w → (∀ v9, v9 = kw_p2i g c h0 5 → kn_Go X ML_print 108 [(4, .int (nI 5)), (3, .int (nI c)), (1, .long v9), (0, .ref 0)] [] σ τ z (C) (N) Q) → kn_Go X ML_print 81 [(4, .int (nI w)), (3, .int (nI c)), (1, .long v), (0, .ref 0)] [] σ τ z (2 * r9 + C) (12 * r9 + N) Q := by
    intro r9
    induction r9 with
    | zero =>
      intro C N c w h0 v hc hw hv hk
      obtain rfl : w = 5 := by omega
      refine k_iload dL_print_81 rfl ?_
      refine k_iconst (5) dL_print_83 (by decide) ?_
      refine k_icmpge 108 dL_print_84 (by decide) (fun h84 => ?_) (fun h84 => ?_)
      · exact k_room (by omega) (by omega) (hk _ hv)
      · exact absurd (show (5 : Int32) ≤ nI 5 from nI_le (Nat.le_refl 5) (by decide)) h84
    | succ r9 ih =>
      intro C N c w h0 v hc hw hv hk
      refine k_iload dL_print_81 rfl ?_
      refine k_iconst (5) dL_print_83 (by decide) ?_
      refine k_icmpge 108 dL_print_84 (by decide) (fun h84 => ?_) (fun h84 => ?_)
      · exact absurd h84 (show ¬ (5 : Int32) ≤ nI w from nI_ge (a := w) (b := 5) (by omega) (by decide))
      · refine k_ldc2 dL_print_87 wK_L_90 ?_
        refine k_lload_n 1 dL_print_90 rfl rfl ?_
        refine k_lmul dL_print_91 ?_
        refine k_aload_n 0 dL_print_92 rfl rfl ?_
        refine k_iload_n 3 dL_print_93 rfl rfl ?_
        refine k_iload dL_print_94 rfl ?_
        refine k_invSH2 (2 * r9 + C) (12 * r9 + N) (As := [_, _, _]) dL_print_96 mm_L_cylinder wL_L_108 ⟨by decide, by decide⟩ rfl rfl (Nat.le_of_ble_eq_true rfl) (by omega) (by omega) (cw_cylinder hK h hc (by omega) ⟨rfl, ?_⟩)
        refine k_i2l dL_print_99 ?_
        refine k_ladd dL_print_100 ?_
        refine k_lstore_n 1 (lv' := [(1, _), (4, _), (3, _), (0, _)]) dL_print_101 rfl (by decide) rfl ?_
        refine k_iinc (nI (w + 1)) (lv' := [(4, _), (1, _), (3, _), (0, _)]) dL_print_102 rfl (kn_inc w) (by decide) rfl ?_
        refine k_goto 81 dL_print_105 (by decide) ?_
        refine k_re [4, 3, 1, 0] (lv' := [(4, _), (3, _), (1, _), (0, _)]) rfl ?_
        refine k_room (c' := 2 * r9 + C) (n' := 12 * r9 + N) (by omega) (by omega) (ih C N c (w + 1) h0 _ hc (by omega) ?_ hk)
        rw [kw_p2i_s, ← hv]
  have lp68 : ∀ r9 : Nat, ∀ (c : Nat) (v : Int64), c + r9 = m → v = kw_p2 g (kw_q1 g m fi) c → kn_Go X ML_print 68 [(3, .int (nI c)), (1, .long v), (0, .ref 0)] [] σ τ z (12 * r9 + 410) (72 * r9 + 2460) Q := by
    intro r9
    induction r9 with
    | zero =>
      intro c v hc hv
      obtain rfl : m = c := by omega
      refine k_iload_n 3 dL_print_68 rfl rfl ?_
      refine k_aload_n 0 dL_print_69 rfl rfl ?_
      refine k_bipush (8) dL_print_70 (by decide) ?_
      refine k_invSH2 (408) (2448) (As := [_, _]) dL_print_72 mm_L_value wL_L_101 ⟨by decide, by decide⟩ rfl rfl (Nat.le_of_ble_eq_true rfl) (by omega) (by omega) (cw_value (k := 8) hK h (by omega) ⟨rfl, ?_⟩)
      rw [show kw_val g m 8 = nI m from if_pos rfl]
      refine k_icmpge 114 dL_print_75 (by decide) (fun h75 => ?_) (fun h75 => ?_)
      · refine k_iconst (0) dL_print_114 (by decide) ?_
        refine k_istore_n 3 (lv' := [(3, _), (1, _), (0, _)]) dL_print_115 rfl (by decide) rfl ?_
        refine k_room (c' := 2 * 24 + 360) (n' := 12 * 24 + 2160) (by omega) (by omega) (lp116 24 0 _ (Nat.zero_add _) ?_)
        rw [kw_p3_0]
        exact hv
      · exact absurd (nI_le (Nat.le_refl m) (by omega)) h75
    | succ r9 ih =>
      intro c v hc hv
      refine k_iload_n 3 dL_print_68 rfl rfl ?_
      refine k_aload_n 0 dL_print_69 rfl rfl ?_
      refine k_bipush (8) dL_print_70 (by decide) ?_
      refine k_invSH2 (12 * r9 + 420) (72 * r9 + 2520) (As := [_, _]) dL_print_72 mm_L_value wL_L_101 ⟨by decide, by decide⟩ rfl rfl (Nat.le_of_ble_eq_true rfl) (by omega) (by omega) (cw_value (k := 8) hK h (by omega) ⟨rfl, ?_⟩)
      rw [show kw_val g m 8 = nI m from if_pos rfl]
      refine k_icmpge 114 dL_print_75 (by decide) (fun h75 => ?_) (fun h75 => ?_)
      · exact absurd h75 (nI_ge (by omega) (by omega))
      · refine k_iconst (0) dL_print_78 (by decide) ?_
        refine k_istore (lv' := [(4, _), (3, _), (1, _), (0, _)]) dL_print_79 (by decide) rfl ?_
        refine k_room (c' := 2 * 5 + (12 * r9 + 410)) (n' := 12 * 5 + (72 * r9 + 2460)) (by omega) (by omega) (lp81 5 (12 * r9 + 410) (72 * r9 + 2460) c 0 _ _ (by omega) (Nat.zero_add _) (kw_p2i_0 g c v).symm (fun v9 hv9 => ?_))
        refine k_iinc (nI (c + 1)) (lv' := [(3, _), (4, _), (1, _), (0, _)]) dL_print_108 rfl (kn_inc c) (by decide) rfl ?_
        refine k_goto 68 dL_print_111 (by decide) ?_
        refine k_re [3, 1, 0] (lv' := [(3, _), (1, _), (0, _)]) rfl ?_
        refine k_room (c' := 12 * r9 + 410) (n' := 72 * r9 + 2460) (by omega) (by omega) (ih (c + 1) _ (by omega) ?_)
        rw [kw_p2_s, ← hv]
        exact hv9
  have lp28 : ∀ r9 : Nat, ∀ (k : Nat) (v : Int64), k + r9 = 9 → v = kw_p1 g m (kw_p0 g m fi) k → kn_Go X ML_print 28 [(3, .int (nI k)), (1, .long v), (0, .ref 0)] [] σ τ z (4 * r9 + 506) (24 * r9 + 3036) Q := by
    intro r9
    induction r9 with
    | zero =>
      intro k v hk hv
      obtain rfl : k = 9 := by omega
      refine k_iload_n 3 dL_print_28 rfl rfl ?_
      refine k_bipush (9) dL_print_29 (by decide) ?_
      refine k_icmpge 66 dL_print_31 (by decide) (fun h31 => ?_) (fun h31 => ?_)
      · refine k_iconst (0) dL_print_66 (by decide) ?_
        refine k_istore_n 3 (lv' := [(3, _), (1, _), (0, _)]) dL_print_67 rfl (by decide) rfl ?_
        refine k_room (c' := 12 * m + 410) (n' := 72 * m + 2460) (by omega) (by omega) (lp68 m 0 _ (Nat.zero_add _) ?_)
        rw [kw_p2_0]
        exact hv
      · exact absurd (show (9 : Int32) ≤ nI 9 from nI_le (Nat.le_refl 9) (by decide)) h31
    | succ r9 ih =>
      intro k v hk hv
      refine k_iload_n 3 dL_print_28 rfl rfl ?_
      refine k_bipush (9) dL_print_29 (by decide) ?_
      refine k_icmpge 66 dL_print_31 (by decide) (fun h31 => ?_) (fun h31 => ?_)
      · exact absurd h31 (show ¬ (9 : Int32) ≤ nI k from nI_ge (a := k) (b := 9) (by omega) (by decide))
      · refine k_ldc2 dL_print_34 wK_L_90 ?_
        refine k_ldc2 dL_print_37 wK_L_90 ?_
        refine k_lload_n 1 dL_print_40 rfl rfl ?_
        refine k_lmul dL_print_41 ?_
        refine k_aload_n 0 dL_print_42 rfl rfl ?_
        refine k_iload_n 3 dL_print_43 rfl rfl ?_
        refine k_invSH2 (4 * r9 + 508) (24 * r9 + 3048) (As := [_, _]) dL_print_44 mm_L_value wL_L_101 ⟨by decide, by decide⟩ rfl rfl (Nat.le_of_ble_eq_true rfl) (by omega) (by omega) (cw_value hK h (by omega) ⟨rfl, ?_⟩)
        refine k_i2l dL_print_47 ?_
        refine k_ladd dL_print_48 ?_
        refine k_lmul dL_print_49 ?_
        refine k_aload_n 0 dL_print_50 rfl rfl ?_
        refine k_iload_n 3 dL_print_51 rfl rfl ?_
        refine k_iconst (5) dL_print_52 (by decide) ?_
        refine k_irem dL_print_53 (by decide) ?_
        rw [show nI k - nI k / 5 * 5 = nI (k % 5) from kw_mod_ (d := 5) (by omega) (by decide) (by decide)]
        refine k_invSH2 (4 * r9 + 506) (24 * r9 + 3036) (As := [_, _]) dL_print_54 mm_L_status wL_L_106 ⟨by decide, by decide⟩ rfl rfl (Nat.le_of_ble_eq_true rfl) (by omega) (by omega) (cw_status hK h (by omega) ⟨rfl, ?_⟩)
        refine k_i2l dL_print_57 ?_
        refine k_ladd dL_print_58 ?_
        refine k_lstore_n 1 (lv' := [(1, _), (3, _), (0, _)]) dL_print_59 rfl (by decide) rfl ?_
        refine k_iinc (nI (k + 1)) (lv' := [(3, _), (1, _), (0, _)]) dL_print_60 rfl (kn_inc k) (by decide) rfl ?_
        refine k_goto 28 dL_print_63 (by decide) ?_
        refine k_room (c' := 4 * r9 + 506) (n' := 24 * r9 + 3036) (by omega) (by omega) (ih (k + 1) _ (by omega) ?_)
        rw [kw_p1_s, ← hv]
  refine k_ldc2 dL_print_0 wK_L_90 ?_
  refine k_ldc2 dL_print_3 wK_L_90 ?_
  refine k_aload_n 0 dL_print_6 rfl rfl ?_
  refine k_invV (As := []) dL_print_7 mm_X6_firings wL_L_92 ⟨by decide, by decide⟩ hK.1.1 hK.1.2 rfl rfl (Nat.le_of_ble_eq_true rfl) (Nat.zero_le _) (Nat.zero_le _) (cw_firings hK h ⟨rfl, ?_⟩)
  refine k_i2l dL_print_10 ?_
  refine k_lmul dL_print_11 ?_
  refine k_aload_n 0 dL_print_12 rfl rfl ?_
  refine k_invV (As := []) dL_print_13 mm_X6_events wL_L_95 ⟨by decide, by decide⟩ hK.1.1 hK.1.2 rfl rfl (Nat.le_of_ble_eq_true rfl) (Nat.zero_le _) (Nat.zero_le _) (cw_events hK h ⟨rfl, ?_⟩)
  refine k_i2l dL_print_16 ?_
  refine k_ladd dL_print_17 ?_
  refine k_lmul dL_print_18 ?_
  refine k_aload_n 0 dL_print_19 rfl rfl ?_
  refine k_invV (As := []) dL_print_20 mm_X6_next wL_L_98 ⟨by decide, by decide⟩ hK.1.1 hK.1.2 rfl rfl (Nat.le_of_ble_eq_true rfl) (Nat.zero_le _) (Nat.zero_le _) (cw_next hK h ⟨rfl, ?_⟩)
  refine k_i2l dL_print_23 ?_
  refine k_ladd dL_print_24 ?_
  refine k_lstore_n 1 (lv' := [(1, _), (0, _)]) dL_print_25 rfl (by decide) rfl ?_
  refine k_iconst (0) dL_print_26 (by decide) ?_
  refine k_istore_n 3 (lv' := [(3, _), (1, _), (0, _)]) dL_print_27 rfl (by decide) rfl ?_
  refine k_room (c' := 4 * 9 + 506) (n' := 24 * 9 + 3036) (by omega) (by omega) (lp28 9 0 _ (Nat.zero_add _) ?_)
  rw [kw_p1_0]
  rfl

