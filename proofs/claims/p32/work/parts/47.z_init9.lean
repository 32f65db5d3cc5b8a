-- State's cells stand as they should
set_option maxRecDepth 100000 in
set_option maxHeartbeats 4000000 in
theorem kn_z5_st {z : kn_Z} {b : Nat} (h : z.1 = b + 1) : kn_isSt (kn_z5 z b) b := by
  obtain ⟨N, g⟩ := z
  obtain rfl : N = b + 1 := h
  simp [kn_isSt, kn_isLog, kn_isRow, Nat.add_assoc]
theorem kn_z5_1 {z : kn_Z} {b : Nat} : (kn_z5 z b).1 = z.1 + 19 := rfl

