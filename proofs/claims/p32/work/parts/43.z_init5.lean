-- the model's constructor
abbrev kn_mZ (z : kn_Z) : kn_Z :=
  let z1 := kn_zP (kn_zZ z (.inr (.inl (0, 254)))) 128 6 [some (.ref 129), some .null, some .null, none, none, some .null, none, none, none, none, none, none, some (.long 0)]
  let z2 := kn_zP (kn_zZ z1 (.inr (.inl (0, 1016)))) 128 6 [some (.ref 129), some (.ref 130), some .null, none, none, some .null, none, none, none, none, none, none, some (.long 0)]
  let z3 := kn_zP (kn_zZ z2 (.inr (.inl (0, 254)))) 128 6 [some (.ref 129), some (.ref 130), some (.ref 131), none, none, some .null, none, none, none, none, none, none, some (.long 0)]
  kn_zP (kn_zZ z3 (.inr (.inl (0, 120)))) 128 6 [some (.ref 129), some (.ref 130), some (.ref 131), none, none, some (.ref 132), none, none, none, none, none, none, some (.long 0)]
