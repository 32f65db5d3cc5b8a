-- the model: looking ahead, the digest
def kg_it (s : kn_S) (m cl : Nat) (x y w : Int32) : Nat → kn_S
  | 0 => s
  | j + 1 => kg_fs (kg_it s m cl x y w j) m cl x y w
def kg_qL (s : kn_S) (m cl : Nat) (x y w : Int32) : Nat → Nat → Int32 → Nat × Int32
  | 0, j, q => (j, q)
  | r + 1, j, q => if 5 * nI m ≤ q then (j, q) else kg_qL s m cl x y w r (j + 1) (if kg_fa (kg_it s m cl x y w j) m cl x y w = 1 then 0 else q + 1)
abbrev kg_as (s : kn_S) : kn_S := kg_cpy (kn_up s 128 4 0) 131 0 129 0 254
abbrev kg_bk (s : kn_S) : kn_S := kg_cpy s 129 0 131 0 254
def kg_dgS (N9 : Int64 → Nat → Int64) (s : kn_S) (m fi lc : Nat) : Int64 := 31 * kg_hA (s 129) 73 (kg_hA (s 129) 49 (N9 (kg_hA (s 129) 12 (31 * (31 * (31 * (31 * kg_hA (s 129) 0 (31 * 2969 + (s 128 6).toInt64) 9 + (s 129 9).toInt64) + (nI (fi % m)).toInt64) + (s 129 10).toInt64) + (s 129 11).toInt64) 5) m) 24) (1 + 3 * lc) + (s 128 3).toInt64

