-- State's constructor: the static row, a new Log
theorem k_getstaticN {X : kn_X} {M : kn_M} {pc : Nat} {lv : kn_L} {σ : kn_S} {τ : kn_T} {z : kn_Z} {c n : Nat} {Q : kn_Q} {st : List Value} {idx : Nat} (hd : decode M.2.1 pc = .ok (.getstatic idx, 3)) (hL : Cond.fieldLinkNest M.1.cls idx "KnockControl" "FIRST_SETTING" "[I" "KnockControl" ∈ kn_bad)
    (kk : kn_Go X M (pc + 3) lv (.retAddr 2 :: st) σ τ z c n Q) : kn_Go X M pc lv st σ τ z c n Q := by
  intro D cs z0 ar p l e R s m args below meth cd n0 a0 mc ms QF Cx ad H locs ls cells slots hA
  exact va_getsN Cx.1.1.1 Cx.1.1.2.1 Cx.1.2.2.2.2.2.1.2.1 hA.2.2.2.1 Cx.1.1.2.2.2.1 (kn_bad_use (List.mem_filter.mp hL).2 (Cx.1.2.2.2.2.2.2.2.2.1 _ hL)) (fun _ h => h) hd (kk D cs z0 ar p l e R s m args below meth cd n0 a0 mc ms QF Cx ad H locs ls cells slots hA)

