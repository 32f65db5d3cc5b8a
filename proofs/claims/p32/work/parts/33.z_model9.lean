-- Float's bits
theorem k_f2raw {X : kn_X} {M : kn_M} {pc : Nat} {lv : kn_L} {σ : kn_S} {τ : kn_T} {z : kn_Z} {c n : Nat} {Q : kn_Q} {b : UInt32} {rest : List Value} {idx : Nat} (hd : decode M.2.1 pc = .ok (.invokestatic idx, 3)) (hL : Cond.methodLink M.1.cls idx ⟨"java/lang/Float", "floatToRawIntBits", "(F)I"⟩ ∈ kn_ws) (hn : Cond.native ⟨"java/lang/Float", "floatToRawIntBits", "(F)I"⟩ ∈ kn_ws) (hs : Cond.static ⟨"java/lang/Float", "floatToRawIntBits", "(F)I"⟩ ∈ kn_ws) (hi : Cond.initialized "java/lang/Float" ∈ kn_ws) (hf : 1 ≤ M.2.2.2.2.2.1 ∧ (rest.map fun v => v.category).sum + 15 ≤ M.2.2.2.2.2.2)
    (k : kn_Go X M (pc + 3) lv (.int b.toInt32 :: rest) σ τ z c n Q) : kn_Go X M pc lv (.float b :: rest) σ τ z c n Q := by
  intro D cs z0 ar p l e R s m args below meth cd n0 a0 mc ms QF Cx ad H locs ls cells slots hA
  have hts := Cx.1.1.2.2.2.2
  refine vn_f2i Cx.1.1.1 Cx.1.1.2.1 (by rw [Cx.1.1.2.2.1]; exact hA.2.2.2.2.1.symm) Cx.1.1.2.2.2.1 (hts _ hL) (hts _ hn) (hts _ hs) (hts _ hi) (Nat.le_trans hf.1 Cx.1.2.2.1.1) ?_ hd ?_
  · have h9 := Nat.le_trans hf.2 Cx.1.2.2.1.2
    show ((rest.map (kn_cv ad ar)).map fun v => v.category).sum + 15 ≤ _
    rw [kn_cats]
    exact h9
  · exact k D cs z0 ar p l e R s m args below meth cd n0 a0 mc ms QF Cx ad H locs ls cells slots hA
def kg_nan (f : UInt32) : Int32 := if Op.cmpValue (FP.fcmp f f) .l = 0 then 0 else 1

