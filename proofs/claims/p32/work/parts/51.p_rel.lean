/-! THE PURE PART: the class's cells and the reference's row. -/
def kr_o (k : Nat) : Nat := if k < 8 then 2 else if k < 17 then 0 else if k < 25 then 4 else if k < 33 then 6 else if k < 41 then 8 else if k < 49 then 10 else 12
def kr_q (k : Nat) : Nat := if k < 8 then k else if k < 17 then [7, 13, 15, 16, 12, 10, 11, 8, 9].getD (k - 8) 0 else if k < 25 then k - 17 else if k < 33 then k - 25 else if k < 41 then k - 33 else if k < 49 then k - 41 else k - 49
theorem kr_inj : ∀ k, k < 73 → ∀ j, j < 73 → kr_o k = kr_o j → kr_q k = kr_q j → k = j := by decide +kernel
theorem kr_o12 : ∀ k, k < 73 → kr_o k ≤ 12 := by decide +kernel
theorem kr_q14 : ∀ k, k < 73 → kr_o k = 0 → kr_q k ≠ 14 := by decide +kernel
/-- the place k of the row g, for k below 73, is what the class's State at b keeps for it -/
def kr_A (s : kn_S) (b : Nat) (g : Nat → Int32) : Prop := ∀ k, k < 73 → s (b + kr_o k) (kr_q k) = g k
theorem kr_A.up {s : kn_S} {b k : Nat} {g : Nat → Int32} (h : kr_A s b g) (hk : k < 73) (v : Int32) : kr_A (kn_up s (b + kr_o k) (kr_q k) v) b (upd g k v) := by
  intro j hj
  unfold kn_up upd
  by_cases q : j = k
  · rw [if_pos q, q, if_pos ⟨rfl, rfl⟩]
  · rw [if_neg q, if_neg]
    · exact h j hj
    · rintro ⟨h1, h2⟩
      exact q (kr_inj j hj k hk (by omega) h2)
theorem kr_A.to {s s' : kn_S} {b : Nat} {g : Nat → Int32} (h : kr_A s b g) (hs : ∀ a, b ≤ a → a ≤ b + 12 → ∀ j, (a = b → j ≠ 14) → s' a j = s a j) : kr_A s' b g := fun k hk => by
  have h1 := kr_o12 k hk
  rw [hs (b + kr_o k) (by omega) (by omega) (kr_q k) (fun q => kr_q14 k hk (by omega))]
  exact h k hk
theorem kr_A.of {s : kn_S} {b : Nat} {g g' : Nat → Int32} (h : kr_A s b g) (hg : ∀ k, k < 73 → g' k = g k) : kr_A s b g' := fun k hk => (h k hk).trans (hg k hk).symm
section KRP
variable {s : kn_S} {b c : Nat} {g : Nat → Int32}
theorem kr_o17 (hc : c < 8) : kr_o (17 + c) = 4 ∧ kr_q (17 + c) = c := by
  refine ⟨?_, ?_⟩
  · unfold kr_o; rw [if_neg (by omega), if_neg (by omega), if_pos (by omega)]
  · unfold kr_q; rw [if_neg (by omega), if_neg (by omega), if_pos (by omega)]; omega
theorem kr_o25 (hc : c < 8) : kr_o (25 + c) = 6 ∧ kr_q (25 + c) = c := by
  refine ⟨?_, ?_⟩
  · unfold kr_o; rw [if_neg (by omega), if_neg (by omega), if_neg (by omega), if_pos (by omega)]
  · unfold kr_q; rw [if_neg (by omega), if_neg (by omega), if_neg (by omega), if_pos (by omega)]; omega
theorem kr_o33 (hc : c < 8) : kr_o (33 + c) = 8 ∧ kr_q (33 + c) = c := by
  refine ⟨?_, ?_⟩
  · unfold kr_o; rw [if_neg (by omega), if_neg (by omega), if_neg (by omega), if_neg (by omega), if_pos (by omega)]
  · unfold kr_q; rw [if_neg (by omega), if_neg (by omega), if_neg (by omega), if_neg (by omega), if_pos (by omega)]; omega
theorem kr_o41 (hc : c < 8) : kr_o (41 + c) = 10 ∧ kr_q (41 + c) = c := by
  refine ⟨?_, ?_⟩
  · unfold kr_o; rw [if_neg (by omega), if_neg (by omega), if_neg (by omega), if_neg (by omega), if_neg (by omega), if_pos (by omega)]
  · unfold kr_q; rw [if_neg (by omega), if_neg (by omega), if_neg (by omega), if_neg (by omega), if_neg (by omega), if_pos (by omega)]; omega
theorem kr_o49 (hc : c < 24) : kr_o (49 + c) = 12 ∧ kr_q (49 + c) = c := by
  refine ⟨?_, ?_⟩
  · unfold kr_o; rw [if_neg (by omega), if_neg (by omega), if_neg (by omega), if_neg (by omega), if_neg (by omega), if_neg (by omega)]
  · unfold kr_q; rw [if_neg (by omega), if_neg (by omega), if_neg (by omega), if_neg (by omega), if_neg (by omega), if_neg (by omega)]; omega
theorem kr_o0 (hc : c < 8) : kr_o c = 2 ∧ kr_q c = c := ⟨if_pos hc, if_pos hc⟩
theorem kr_A.set (h : kr_A s b g) (hc : c < 8) : s (b + 2) c = g c := by
  have := h c (by omega)
  rwa [(kr_o0 hc).1, (kr_o0 hc).2] at this
theorem kr_A.fast (h : kr_A s b g) (hc : c < 8) : s (b + 4) c = g (17 + c) := by
  have := h (17 + c) (by omega)
  rwa [(kr_o17 hc).1, (kr_o17 hc).2] at this
theorem kr_A.lev (h : kr_A s b g) (hc : c < 8) : s (b + 6) c = g (25 + c) := by
  have := h (25 + c) (by omega)
  rwa [(kr_o25 hc).1, (kr_o25 hc).2] at this
theorem kr_A.qui (h : kr_A s b g) (hc : c < 8) : s (b + 8) c = g (33 + c) := by
  have := h (33 + c) (by omega)
  rwa [(kr_o33 hc).1, (kr_o33 hc).2] at this
theorem kr_A.kno (h : kr_A s b g) (hc : c < 8) : s (b + 10) c = g (41 + c) := by
  have := h (41 + c) (by omega)
  rwa [(kr_o41 hc).1, (kr_o41 hc).2] at this
theorem kr_A.lea (h : kr_A s b g) (hc : c < 24) : s (b + 12) c = g (49 + c) := by
  have := h (49 + c) (by omega)
  rwa [(kr_o49 hc).1, (kr_o49 hc).2] at this
theorem kr_A.cyl (h : kr_A s b g) : s b 7 = g 8 := h 8 (by decide)
theorem kr_A.fir (h : kr_A s b g) : s b 13 = g 9 := h 9 (by decide)
theorem kr_A.see (h : kr_A s b g) : s b 15 = g 10 := h 10 (by decide)
theorem kr_A.bro (h : kr_A s b g) : s b 16 = g 11 := h 11 (by decide)
theorem kr_A.fau (h : kr_A s b g) : s b 12 = g 12 := h 12 (by decide)
theorem kr_A.low (h : kr_A s b g) : s b 10 = g 13 := h 13 (by decide)
theorem kr_A.goo (h : kr_A s b g) : s b 11 = g 14 := h 14 (by decide)
theorem kr_A.ste (h : kr_A s b g) : s b 8 = g 15 := h 15 (by decide)
theorem kr_A.las (h : kr_A s b g) : s b 9 = g 16 := h 16 (by decide)
end KRP
/-- the log: the class's ring at l, the reference's row -/
def kr_L (s : kn_S) (l : Nat) (g : Nat → Int32) : Prop := ∃ o lc : Nat, (s l 3 = nI o ∧ o < 60) ∧ (s l 4 = nI lc ∧ g 73 = nI lc ∧ lc ≤ 60) ∧ ∀ i, i < lc → s (l + 2) ((o + i) % 60) = g (74 + 3 * i) ∧ s (l + 4) ((o + i) % 60) = g (74 + 3 * i + 1) ∧ s (l + 6) ((o + i) % 60) = g (74 + 3 * i + 2)
theorem kr_L.to {s s' : kn_S} {l : Nat} {g g' : Nat → Int32} (h : kr_L s l g) (hs : ∀ a, l ≤ a → a ≤ l + 6 → s' a = s a) (hg : ∀ k, 73 ≤ k → g' k = g k) : kr_L s' l g' := by
  obtain ⟨o, lc, h1, h2, h3⟩ := h
  refine ⟨o, lc, ?_, ?_, fun i hi => ?_⟩
  · rw [hs l (by omega) (by omega)]; exact h1
  · rw [hs l (by omega) (by omega), hg 73 (by omega)]; exact h2
  · rw [hs (l + 2) (by omega) (by omega), hs (l + 4) (by omega) (by omega), hs (l + 6) (by omega) (by omega), hg _ (by omega), hg _ (by omega), hg _ (by omega)]
    exact h3 i hi
/-- a number from 0 to N -/
def kr_le (x : Int32) (N : Nat) : Prop := ∃ j : Nat, j ≤ N ∧ x = nI j
def kr_sum (kn : Nat → Nat) : Nat → Nat
  | 0 => 0
  | j + 1 => kr_sum kn j + kn j
/-- what holds of every row: m cylinders, fi firings, fk at most that knocked -/
def kr_I (g : Nat → Int32) (m fi fk : Nat) : Prop :=
  (g 8 = nI m ∧ 2 ≤ m ∧ m ≤ 8) ∧ g 9 = nI fi ∧ (kn_01 (g 11) ∧ kn_01 (g 12)) ∧ (kr_le (g 0) 128 ∧ kr_le (g 10) 2147483647 ∧ ∀ k, k < 8 → kr_le (g k) 1000) ∧ (∀ c, c < 8 → kr_le (g (17 + c)) 1000) ∧ (∀ c, c < 8 → kr_le (g (25 + c)) 5120000) ∧ (∀ c, c < 24 → kr_le (g (49 + c)) 100) ∧
  ∃ kn : Nat → Nat, (∀ c, c < 8 → g (41 + c) = nI (kn c)) ∧ kr_sum kn m ≤ fk
theorem kr_I.of {g g' : Nat → Int32} {m fi fk : Nat} (h : kr_I g m fi fk) (hg : ∀ k, k < 73 → g' k = g k) : kr_I g' m fi fk := by
  obtain ⟨h1, h2, h3, h4, h5, h6, h7, kn, h8, h9⟩ := h
  refine ⟨?_, ?_, ?_, ⟨?_, ?_, fun k hk => ?_⟩, fun c hc => ?_, fun c hc => ?_, fun c hc => ?_, kn, fun c hc => ?_, h9⟩
  · rw [hg 8 (by omega)]; exact h1
  · rw [hg 9 (by omega)]; exact h2
  · rw [hg 11 (by omega), hg 12 (by omega)]; exact h3
  · rw [hg 0 (by omega)]; exact h4.1
  · rw [hg 10 (by omega)]; exact h4.2.1
  · rw [hg k (by omega)]; exact h4.2.2 k hk
  · rw [hg (17 + c) (by omega)]; exact h5 c hc
  · rw [hg (25 + c) (by omega)]; exact h6 c hc
  · rw [hg (49 + c) (by omega)]; exact h7 c hc
  · rw [hg (41 + c) (by omega)]; exact h8 c hc
theorem upd_or (g : Nat → Int32) (k : Nat) (v : Int32) (j : Nat) : (j = k ∧ upd g k v j = v) ∨ (j ≠ k ∧ upd g k v j = g j) := by
  unfold upd
  by_cases q : j = k
  · exact Or.inl ⟨q, if_pos q⟩
  · exact Or.inr ⟨q, if_neg q⟩
theorem kr_I.put {g : Nat → Int32} {m fi fk k : Nat} {v : Int32} (h : kr_I g m fi fk) (h8 : k ≠ 8 ∧ k ≠ 9 ∧ (k < 41 ∨ 49 ≤ k)) (p1 : k = 11 ∨ k = 12 → kn_01 v) (p2 : k = 0 → kr_le v 128) (p3 : k = 10 → kr_le v 2147483647) (p4 : k < 8 → kr_le v 1000) (p5 : 17 ≤ k → k < 25 → kr_le v 1000) (p6 : 25 ≤ k → k < 33 → kr_le v 5120000) (p7 : 49 ≤ k → k < 73 → kr_le v 100) : kr_I (upd g k v) m fi fk := by
  obtain ⟨h1, h2, h3, h4, h5, h6, h7, kn, h10, h9⟩ := h
  have e : ∀ j, j ≠ k → upd g k v j = g j := fun j hj => if_neg hj
  refine ⟨?_, ?_, ⟨?_, ?_⟩, ⟨?_, ?_, fun d hd => ?_⟩, fun d hd => ?_, fun d hd => ?_, fun d hd => ?_, kn, fun d hd => ?_, h9⟩
  · rw [e 8 (by omega)]; exact h1
  · rw [e 9 (by omega)]; exact h2
  · rcases upd_or g k v 11 with ⟨q, w⟩ | ⟨q, w⟩ <;> rw [w]
    · exact p1 (by omega)
    · exact h3.1
  · rcases upd_or g k v 12 with ⟨q, w⟩ | ⟨q, w⟩ <;> rw [w]
    · exact p1 (by omega)
    · exact h3.2
  · rcases upd_or g k v 0 with ⟨q, w⟩ | ⟨q, w⟩ <;> rw [w]
    · exact p2 (by omega)
    · exact h4.1
  · rcases upd_or g k v 10 with ⟨q, w⟩ | ⟨q, w⟩ <;> rw [w]
    · exact p3 (by omega)
    · exact h4.2.1
  · rcases upd_or g k v d with ⟨q, w⟩ | ⟨q, w⟩ <;> rw [w]
    · exact p4 (by omega)
    · exact h4.2.2 d hd
  · rcases upd_or g k v (17 + d) with ⟨q, w⟩ | ⟨q, w⟩ <;> rw [w]
    · exact p5 (by omega) (by omega)
    · exact h5 d hd
  · rcases upd_or g k v (25 + d) with ⟨q, w⟩ | ⟨q, w⟩ <;> rw [w]
    · exact p6 (by omega) (by omega)
    · exact h6 d hd
  · rcases upd_or g k v (49 + d) with ⟨q, w⟩ | ⟨q, w⟩ <;> rw [w]
    · exact p7 (by omega) (by omega)
    · exact h7 d hd
  · rw [e (41 + d) (by omega)]; exact h10 d hd
/-- the class's State at b and the row g: the same control -/
def kr_X (s : kn_S) (b : Nat) (g : Nat → Int32) (m fi fk : Nat) : Prop := kr_A s b g ∧ kr_L s (b + 13) g ∧ kr_I g m fi fk
theorem upd_hi {g : Nat → Int32} {k : Nat} {v : Int32} (hk : k < 73) : ∀ j, 73 ≤ j → upd g k v j = g j := fun j hj => if_neg (by omega)
theorem kr_X.up {s : kn_S} {b k m fi fk fi' fk' : Nat} {t : kn_S} {v : Int32} (h : kr_X s b (t 129) m fi fk) (hk : k < 73) (hI : kr_I (upd (t 129) k v) m fi' fk') : kr_X (kn_up s (b + kr_o k) (kr_q k) v) b (kn_up t 129 k v 129) m fi' fk' := by
  obtain ⟨hA, hL, -⟩ := h
  have := kr_o12 k hk
  rw [kn_up_row]
  exact ⟨hA.up hk v, hL.to (fun a h1 h2 => kn_up_ne _ _ _ (by omega)) (upd_hi hk), hI⟩
section KRU
variable {s t : kn_S} {b m fi fk fi' fk' c : Nat} {v : Int32}
theorem kr_X.low (h : kr_X s b (t 129) m fi fk) : kr_X (kn_up s b 10 v) b (kn_up t 129 13 v 129) m fi fk := h.up (k := 13) (by decide) (h.2.2.put (by omega) (fun q0 => by exfalso; omega) (fun q0 => by exfalso; omega) (fun q0 => by exfalso; omega) (fun q0 => by exfalso; omega) (fun q0 q1 => by exfalso; omega) (fun q0 q1 => by exfalso; omega) (fun q0 q1 => by exfalso; omega))
theorem kr_X.goo (h : kr_X s b (t 129) m fi fk) : kr_X (kn_up s b 11 v) b (kn_up t 129 14 v 129) m fi fk := h.up (k := 14) (by decide) (h.2.2.put (by omega) (fun q0 => by exfalso; omega) (fun q0 => by exfalso; omega) (fun q0 => by exfalso; omega) (fun q0 => by exfalso; omega) (fun q0 q1 => by exfalso; omega) (fun q0 q1 => by exfalso; omega) (fun q0 q1 => by exfalso; omega))
theorem kr_X.ste (h : kr_X s b (t 129) m fi fk) : kr_X (kn_up s b 8 v) b (kn_up t 129 15 v 129) m fi fk := h.up (k := 15) (by decide) (h.2.2.put (by omega) (fun q0 => by exfalso; omega) (fun q0 => by exfalso; omega) (fun q0 => by exfalso; omega) (fun q0 => by exfalso; omega) (fun q0 q1 => by exfalso; omega) (fun q0 q1 => by exfalso; omega) (fun q0 q1 => by exfalso; omega))
theorem kr_X.las (h : kr_X s b (t 129) m fi fk) : kr_X (kn_up s b 9 v) b (kn_up t 129 16 v 129) m fi fk := h.up (k := 16) (by decide) (h.2.2.put (by omega) (fun q0 => by exfalso; omega) (fun q0 => by exfalso; omega) (fun q0 => by exfalso; omega) (fun q0 => by exfalso; omega) (fun q0 q1 => by exfalso; omega) (fun q0 q1 => by exfalso; omega) (fun q0 q1 => by exfalso; omega))
theorem kr_X.see (h : kr_X s b (t 129) m fi fk) (hv : kr_le v 2147483647) : kr_X (kn_up s b 15 v) b (kn_up t 129 10 v 129) m fi fk := h.up (k := 10) (by decide) (h.2.2.put (by omega) (fun q0 => by exfalso; omega) (fun q0 => by exfalso; omega) (fun _ => hv) (fun q0 => by exfalso; omega) (fun q0 q1 => by exfalso; omega) (fun q0 q1 => by exfalso; omega) (fun q0 q1 => by exfalso; omega))
theorem kr_X.fau (h : kr_X s b (t 129) m fi fk) (hv : kn_01 v) : kr_X (kn_up s b 12 v) b (kn_up t 129 12 v 129) m fi fk := h.up (k := 12) (by decide) (h.2.2.put (by omega) (fun _ => hv) (fun q0 => by exfalso; omega) (fun q0 => by exfalso; omega) (fun q0 => by exfalso; omega) (fun q0 q1 => by exfalso; omega) (fun q0 q1 => by exfalso; omega) (fun q0 q1 => by exfalso; omega))
theorem kr_X.bro (h : kr_X s b (t 129) m fi fk) (hv : kn_01 v) : kr_X (kn_up s b 16 v) b (kn_up t 129 11 v 129) m fi fk := h.up (k := 11) (by decide) (h.2.2.put (by omega) (fun _ => hv) (fun q0 => by exfalso; omega) (fun q0 => by exfalso; omega) (fun q0 => by exfalso; omega) (fun q0 q1 => by exfalso; omega) (fun q0 q1 => by exfalso; omega) (fun q0 q1 => by exfalso; omega))
theorem kr_X.qui (h : kr_X s b (t 129) m fi fk) (hc : c < 8) : kr_X (kn_up s (b + 8) c v) b (kn_up t 129 (33 + c) v 129) m fi fk := by
  have := h.up (k := 33 + c) (v := v) (by omega) (h.2.2.put (by omega) (fun q0 => by exfalso; omega) (fun q0 => by exfalso; omega) (fun q0 => by exfalso; omega) (fun q0 => by exfalso; omega) (fun q0 q1 => by exfalso; omega) (fun q0 q1 => by exfalso; omega) (fun q0 q1 => by exfalso; omega))
  rwa [(kr_o33 hc).1, (kr_o33 hc).2] at this
theorem kr_X.fast (h : kr_X s b (t 129) m fi fk) (hc : c < 8) (hv : kr_le v 1000) : kr_X (kn_up s (b + 4) c v) b (kn_up t 129 (17 + c) v 129) m fi fk := by
  have := h.up (k := 17 + c) (v := v) (by omega) (h.2.2.put (by omega) (fun q0 => by exfalso; omega) (fun q0 => by exfalso; omega) (fun q0 => by exfalso; omega) (fun q0 => by exfalso; omega) (fun _ _ => hv) (fun q0 q1 => by exfalso; omega) (fun q0 q1 => by exfalso; omega))
  rwa [(kr_o17 hc).1, (kr_o17 hc).2] at this
theorem kr_X.lev (h : kr_X s b (t 129) m fi fk) (hc : c < 8) (hv : kr_le v 5120000) : kr_X (kn_up s (b + 6) c v) b (kn_up t 129 (25 + c) v 129) m fi fk := by
  have := h.up (k := 25 + c) (v := v) (by omega) (h.2.2.put (by omega) (fun q0 => by exfalso; omega) (fun q0 => by exfalso; omega) (fun q0 => by exfalso; omega) (fun q0 => by exfalso; omega) (fun q0 q1 => by exfalso; omega) (fun _ _ => hv) (fun q0 q1 => by exfalso; omega))
  rwa [(kr_o25 hc).1, (kr_o25 hc).2] at this
theorem kr_X.lea (h : kr_X s b (t 129) m fi fk) (hc : c < 24) (hv : kr_le v 100) : kr_X (kn_up s (b + 12) c v) b (kn_up t 129 (49 + c) v 129) m fi fk := by
  have := h.up (k := 49 + c) (v := v) (by omega) (h.2.2.put (by omega) (fun q0 => by exfalso; omega) (fun q0 => by exfalso; omega) (fun q0 => by exfalso; omega) (fun q0 => by exfalso; omega) (fun q0 q1 => by exfalso; omega) (fun q0 q1 => by exfalso; omega) (fun _ _ => hv))
  rwa [(kr_o49 hc).1, (kr_o49 hc).2] at this
theorem kr_X.set (h : kr_X s b (t 129) m fi fk) (hc : c < 8) (hv : kr_le v 1000) (hv0 : c = 0 → kr_le v 128) : kr_X (kn_up s (b + 2) c v) b (kn_up t 129 c v 129) m fi fk := by
  have := h.up (k := c) (v := v) (by omega) (h.2.2.put (by omega) (fun q0 => by exfalso; omega) hv0 (fun q0 => by exfalso; omega) (fun _ => hv) (fun q0 q1 => by exfalso; omega) (fun q0 q1 => by exfalso; omega) (fun q0 q1 => by exfalso; omega))
  rwa [(kr_o0 hc).1, (kr_o0 hc).2] at this
theorem kr_sum_up {kn : Nat → Nat} {c : Nat} : ∀ m, kr_sum (fun d => if d = c then kn d + 1 else kn d) m ≤ kr_sum kn m + (if c < m then 1 else 0)
  | 0 => Nat.zero_le _
  | m + 1 => by
    have h := kr_sum_up (kn := kn) (c := c) m
    show kr_sum _ m + (if m = c then kn m + 1 else kn m) ≤ kr_sum kn m + kn m + _
    by_cases q : m = c
    · subst q
      rw [if_neg (Nat.lt_irrefl _)] at h
      rw [if_pos rfl, if_pos (Nat.lt_succ_self _)]
      omega
    · rw [if_neg q]
      by_cases q2 : c < m
      · rw [if_pos q2] at h; rw [if_pos (by omega)]; omega
      · rw [if_neg q2] at h; rw [if_neg (by omega)]; omega
theorem kr_I.kno {g : Nat → Int32} (h : kr_I g m fi fk) (hc : c < 8) : kr_I (upd g (41 + c) (g (41 + c) + 1)) m fi (fk + 1) := by
  obtain ⟨h1, h2, h3, h4, h5, h6, h7, kn, h8, h9⟩ := h
  have e : ∀ j, j ≠ 41 + c → upd g (41 + c) (g (41 + c) + 1) j = g j := fun j hj => if_neg hj
  refine ⟨?_, ?_, ?_, ⟨?_, ?_, fun d hd => ?_⟩, fun d hd => ?_, fun d hd => ?_, fun d hd => ?_, (fun d => if d = c then kn d + 1 else kn d), fun d hd => ?_, ?_⟩
  · rw [e 8 (by omega)]; exact h1
  · rw [e 9 (by omega)]; exact h2
  · rw [e 11 (by omega), e 12 (by omega)]; exact h3
  · rw [e 0 (by omega)]; exact h4.1
  · rw [e 10 (by omega)]; exact h4.2.1
  · rw [e d (by omega)]; exact h4.2.2 d hd
  · rw [e (17 + d) (by omega)]; exact h5 d hd
  · rw [e (25 + d) (by omega)]; exact h6 d hd
  · rw [e (49 + d) (by omega)]; exact h7 d hd
  · by_cases q : d = c
    · subst q
      rw [show upd g (41 + d) (g (41 + d) + 1) (41 + d) = g (41 + d) + 1 from if_pos rfl, h8 d hd, nI_1]
      show _ = nI (if d = d then kn d + 1 else kn d)
      rw [if_pos rfl]
    · rw [e (41 + d) (by omega), h8 d hd]
      show _ = nI (if d = c then kn d + 1 else kn d)
      rw [if_neg q]
  · have := kr_sum_up (kn := kn) (c := c) m
    have h10 : (if c < m then 1 else 0) ≤ 1 := by split <;> omega
    omega
theorem kr_X.kno (h : kr_X s b (t 129) m fi fk) (hc : c < 8) : kr_X (kn_up s (b + 10) c (s (b + 10) c + 1)) b (kn_up t 129 (41 + c) (t 129 (41 + c) + 1) 129) m fi (fk + 1) := by
  have := h.up (k := 41 + c) (v := t 129 (41 + c) + 1) (by omega) (h.2.2.kno hc)
  rw [(kr_o41 hc).1, (kr_o41 hc).2] at this
  rwa [h.1.kno hc]
theorem kr_I.fir {g : Nat → Int32} (h : kr_I g m fi fk) : kr_I (upd g 9 (g 9 + 1)) m (fi + 1) fk := by
  obtain ⟨h1, h2, h3, h4, h5, h6, h7, kn, h8, h9⟩ := h
  have e : ∀ j, j ≠ 9 → upd g 9 (g 9 + 1) j = g j := fun j hj => if_neg hj
  refine ⟨?_, ?_, ?_, ⟨?_, ?_, fun d hd => ?_⟩, fun c hc => ?_, fun c hc => ?_, fun c hc => ?_, kn, fun c hc => ?_, h9⟩
  · rw [e 8 (by omega)]; exact h1
  · rw [show upd g 9 (g 9 + 1) 9 = g 9 + 1 from if_pos rfl, h2, nI_1]
  · rw [e 11 (by omega), e 12 (by omega)]; exact h3
  · rw [e 0 (by omega)]; exact h4.1
  · rw [e 10 (by omega)]; exact h4.2.1
  · rw [e d (by omega)]; exact h4.2.2 d hd
  · rw [e (17 + c) (by omega)]; exact h5 c hc
  · rw [e (25 + c) (by omega)]; exact h6 c hc
  · rw [e (49 + c) (by omega)]; exact h7 c hc
  · rw [e (41 + c) (by omega)]; exact h8 c hc
theorem kr_X.fir (h : kr_X s b (t 129) m fi fk) : kr_X (kn_up s b 13 (s b 13 + 1)) b (kn_up t 129 9 (t 129 9 + 1) 129) m (fi + 1) fk := by
  rw [h.1.fir]
  exact h.up (k := 9) (by decide) h.2.2.fir
theorem kr_I.more {g : Nat → Int32} (h : kr_I g m fi fk) {fk' : Nat} (h2 : fk ≤ fk') : kr_I g m fi fk' := by
  obtain ⟨h1, h2, h3, h4, h5, h6, h7, kn, h8, h9⟩ := h
  exact ⟨h1, h2, h3, h4, h5, h6, h7, kn, h8, by omega⟩
theorem kr_X.more (h : kr_X s b (t 129) m fi fk) (h2 : fk ≤ fk') : kr_X s b (t 129) m fi fk' := ⟨h.1, h.2.1, h.2.2.more h2⟩
end KRU

