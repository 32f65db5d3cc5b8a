section
-- ===== PART A: goes FIRST, ahead of the names: the tables' words, and 'selects' of the private methods out of them =====
/-- a private method of a class that the tables say can be made, by its rows of tables_1 -/
def lw_okq (q : MethodName × Nat) : Prop := (q.1.cls ≠ "java/lang/invoke/MethodHandle" ∧ q.1.cls ≠ "java/lang/invoke/VarHandle") ∧ Cond.instantiable q.1.cls q.2 ∈ tables_1 ∧ Cond.privateMethod q.1 ∈ tables_1 ∧ Cond.instanceMethod q.1 ∈ tables_1
theorem lw_p0 : lw_okq (⟨"KnockControl$History", "placeOf", "(I)LKnockControl$State;"⟩, 3) := ⟨⟨by decide +kernel, by decide +kernel⟩, List.mem_of_getElem? (i := 149) (by decide +kernel), List.mem_of_getElem? (i := 210) (by decide +kernel), List.mem_of_getElem? (i := 211) (by decide +kernel)⟩
theorem lw_p1 : lw_okq (⟨"KnockControl$FiringText", "separator", "()C"⟩, 4) := ⟨⟨by decide +kernel, by decide +kernel⟩, List.mem_of_getElem? (i := 168) (by decide +kernel), List.mem_of_getElem? (i := 298) (by decide +kernel), List.mem_of_getElem? (i := 299) (by decide +kernel)⟩
theorem lw_p2 : lw_okq (⟨"KnockControl", "firstWrongFiring", "()I"⟩, 4) := ⟨⟨by decide +kernel, by decide +kernel⟩, List.mem_of_getElem? (i := 18) (by decide +kernel), List.mem_of_getElem? (i := 303) (by decide +kernel), List.mem_of_getElem? (i := 304) (by decide +kernel)⟩
theorem lw_p3 : lw_okq (⟨"KnockControl$State", "watchSensor", "(I)V"⟩, 17) := ⟨⟨by decide +kernel, by decide +kernel⟩, List.mem_of_getElem? (i := 26) (by decide +kernel), List.mem_of_getElem? (i := 332) (by decide +kernel), List.mem_of_getElem? (i := 333) (by decide +kernel)⟩
theorem lw_p4 : lw_okq (⟨"KnockControl$Log", "placeOf", "(I)I"⟩, 5) := ⟨⟨by decide +kernel, by decide +kernel⟩, List.mem_of_getElem? (i := 46) (by decide +kernel), List.mem_of_getElem? (i := 340) (by decide +kernel), List.mem_of_getElem? (i := 341) (by decide +kernel)⟩
theorem lw_p5 : lw_okq (⟨"KnockControl$State", "listen", "(III)I"⟩, 17) := ⟨⟨by decide +kernel, by decide +kernel⟩, List.mem_of_getElem? (i := 26) (by decide +kernel), List.mem_of_getElem? (i := 345) (by decide +kernel), List.mem_of_getElem? (i := 346) (by decide +kernel)⟩
theorem lw_p6 : lw_okq (⟨"KnockControl$State", "retardFast", "(IIII)V"⟩, 17) := ⟨⟨by decide +kernel, by decide +kernel⟩, List.mem_of_getElem? (i := 26) (by decide +kernel), List.mem_of_getElem? (i := 353) (by decide +kernel), List.mem_of_getElem? (i := 354) (by decide +kernel)⟩
theorem lw_p7 : lw_okq (⟨"KnockControl$State", "lowerFast", "(I)V"⟩, 17) := ⟨⟨by decide +kernel, by decide +kernel⟩, List.mem_of_getElem? (i := 26) (by decide +kernel), List.mem_of_getElem? (i := 364) (by decide +kernel), List.mem_of_getElem? (i := 365) (by decide +kernel)⟩
theorem lw_p8 : lw_okq (⟨"KnockControl$State", "keepTogether", "()V"⟩, 17) := ⟨⟨by decide +kernel, by decide +kernel⟩, List.mem_of_getElem? (i := 26) (by decide +kernel), List.mem_of_getElem? (i := 368) (by decide +kernel), List.mem_of_getElem? (i := 369) (by decide +kernel)⟩
theorem lw_p9 : lw_okq (⟨"KnockControl$State", "learn", "(I)V"⟩, 17) := ⟨⟨by decide +kernel, by decide +kernel⟩, List.mem_of_getElem? (i := 26) (by decide +kernel), List.mem_of_getElem? (i := 373) (by decide +kernel), List.mem_of_getElem? (i := 374) (by decide +kernel)⟩
theorem lw_p10 : lw_okq (⟨"KnockControl$State", "sumOfFast", "()I"⟩, 17) := ⟨⟨by decide +kernel, by decide +kernel⟩, List.mem_of_getElem? (i := 26) (by decide +kernel), List.mem_of_getElem? (i := 377) (by decide +kernel), List.mem_of_getElem? (i := 378) (by decide +kernel)⟩
theorem lw_p11 : lw_okq (⟨"java/lang/Throwable", "fillInStackTrace", "(I)Ljava/lang/Throwable;"⟩, 6) := ⟨⟨by decide +kernel, by decide +kernel⟩, List.mem_of_getElem? (i := 461) (by decide +kernel), List.mem_of_getElem? (i := 459) (by decide +kernel), List.mem_of_getElem? (i := 460) (by decide +kernel)⟩
theorem lw_p12 : lw_okq (⟨"KnockControl", "isCylinder", "(I)Z"⟩, 4) := ⟨⟨by decide +kernel, by decide +kernel⟩, List.mem_of_getElem? (i := 18) (by decide +kernel), List.mem_of_getElem? (i := 599) (by decide +kernel), List.mem_of_getElem? (i := 600) (by decide +kernel)⟩
theorem lw_p13 : lw_okq (⟨"KnockControl", "staysQuiet", "(IIII)Z"⟩, 4) := ⟨⟨by decide +kernel, by decide +kernel⟩, List.mem_of_getElem? (i := 18) (by decide +kernel), List.mem_of_getElem? (i := 682) (by decide +kernel), List.mem_of_getElem? (i := 683) (by decide +kernel)⟩
theorem lw_p14 : lw_okq (⟨"KnockControlModel", "begins", "(I)V"⟩, 13) := ⟨⟨by decide +kernel, by decide +kernel⟩, List.mem_of_getElem? (i := 728) (by decide +kernel), List.mem_of_getElem? (i := 734) (by decide +kernel), List.mem_of_getElem? (i := 735) (by decide +kernel)⟩
theorem lw_p15 : lw_okq (⟨"KnockControlModel", "refused", "(I)Z"⟩, 13) := ⟨⟨by decide +kernel, by decide +kernel⟩, List.mem_of_getElem? (i := 728) (by decide +kernel), List.mem_of_getElem? (i := 787) (by decide +kernel), List.mem_of_getElem? (i := 788) (by decide +kernel)⟩
def lw_privs_1 : List (MethodName × Nat) := [(⟨"KnockControl$History", "placeOf", "(I)LKnockControl$State;"⟩, 3), (⟨"KnockControl$FiringText", "separator", "()C"⟩, 4), (⟨"KnockControl", "firstWrongFiring", "()I"⟩, 4), (⟨"KnockControl$State", "watchSensor", "(I)V"⟩, 17), (⟨"KnockControl$Log", "placeOf", "(I)I"⟩, 5), (⟨"KnockControl$State", "listen", "(III)I"⟩, 17), (⟨"KnockControl$State", "retardFast", "(IIII)V"⟩, 17), (⟨"KnockControl$State", "lowerFast", "(I)V"⟩, 17), (⟨"KnockControl$State", "keepTogether", "()V"⟩, 17), (⟨"KnockControl$State", "learn", "(I)V"⟩, 17), (⟨"KnockControl$State", "sumOfFast", "()I"⟩, 17), (⟨"java/lang/Throwable", "fillInStackTrace", "(I)Ljava/lang/Throwable;"⟩, 6), (⟨"KnockControl", "isCylinder", "(I)Z"⟩, 4), (⟨"KnockControl", "staysQuiet", "(IIII)Z"⟩, 4), (⟨"KnockControlModel", "begins", "(I)V"⟩, 13), (⟨"KnockControlModel", "refused", "(I)Z"⟩, 13)]
theorem lw_r1 : ∀ q ∈ lw_privs_1, lw_okq q := List.forall_mem_cons.mpr ⟨lw_p0, List.forall_mem_cons.mpr ⟨lw_p1, List.forall_mem_cons.mpr ⟨lw_p2, List.forall_mem_cons.mpr ⟨lw_p3, List.forall_mem_cons.mpr ⟨lw_p4, List.forall_mem_cons.mpr ⟨lw_p5, List.forall_mem_cons.mpr ⟨lw_p6, List.forall_mem_cons.mpr ⟨lw_p7, List.forall_mem_cons.mpr ⟨lw_p8, List.forall_mem_cons.mpr ⟨lw_p9, List.forall_mem_cons.mpr ⟨lw_p10, List.forall_mem_cons.mpr ⟨lw_p11, List.forall_mem_cons.mpr ⟨lw_p12, List.forall_mem_cons.mpr ⟨lw_p13, List.forall_mem_cons.mpr ⟨lw_p14, List.forall_mem_cons.mpr ⟨lw_p15, fun _ h => absurd h List.not_mem_nil⟩⟩⟩⟩⟩⟩⟩⟩⟩⟩⟩⟩⟩⟩⟩⟩
theorem lw_p16 : lw_okq (⟨"KnockControlModel", "saves", "()V"⟩, 13) := ⟨⟨by decide +kernel, by decide +kernel⟩, List.mem_of_getElem? (i := 728) (by decide +kernel), List.mem_of_getElem? (i := 798) (by decide +kernel), List.mem_of_getElem? (i := 799) (by decide +kernel)⟩
theorem lw_p17 : lw_okq (⟨"KnockControlModel", "treats", "(III)I"⟩, 13) := ⟨⟨by decide +kernel, by decide +kernel⟩, List.mem_of_getElem? (i := 728) (by decide +kernel), List.mem_of_getElem? (i := 836) (by decide +kernel), List.mem_of_getElem? (i := 837) (by decide +kernel)⟩
theorem lw_p18 : lw_okq (⟨"KnockControlModel", "senses", "(I)V"⟩, 13) := ⟨⟨by decide +kernel, by decide +kernel⟩, List.mem_of_getElem? (i := 728) (by decide +kernel), List.mem_of_getElem? (i := 846) (by decide +kernel), List.mem_of_getElem? (i := 847) (by decide +kernel)⟩
theorem lw_p19 : lw_okq (⟨"KnockControlModel", "logs", "(II)V"⟩, 13) := ⟨⟨by decide +kernel, by decide +kernel⟩, List.mem_of_getElem? (i := 728) (by decide +kernel), List.mem_of_getElem? (i := 850) (by decide +kernel), List.mem_of_getElem? (i := 851) (by decide +kernel)⟩
theorem lw_p20 : lw_okq (⟨"KnockControlModel", "threshold", "(I)I"⟩, 13) := ⟨⟨by decide +kernel, by decide +kernel⟩, List.mem_of_getElem? (i := 728) (by decide +kernel), List.mem_of_getElem? (i := 854) (by decide +kernel), List.mem_of_getElem? (i := 855) (by decide +kernel)⟩
theorem lw_p21 : lw_okq (⟨"KnockControlModel", "knocks", "(IIII)V"⟩, 13) := ⟨⟨by decide +kernel, by decide +kernel⟩, List.mem_of_getElem? (i := 728) (by decide +kernel), List.mem_of_getElem? (i := 858) (by decide +kernel), List.mem_of_getElem? (i := 859) (by decide +kernel)⟩
theorem lw_p22 : lw_okq (⟨"KnockControlModel", "rests", "(II)V"⟩, 13) := ⟨⟨by decide +kernel, by decide +kernel⟩, List.mem_of_getElem? (i := 728) (by decide +kernel), List.mem_of_getElem? (i := 862) (by decide +kernel), List.mem_of_getElem? (i := 863) (by decide +kernel)⟩
theorem lw_p23 : lw_okq (⟨"KnockControlModel", "evens", "()V"⟩, 13) := ⟨⟨by decide +kernel, by decide +kernel⟩, List.mem_of_getElem? (i := 728) (by decide +kernel), List.mem_of_getElem? (i := 869) (by decide +kernel), List.mem_of_getElem? (i := 870) (by decide +kernel)⟩
theorem lw_p24 : lw_okq (⟨"KnockControlModel", "greatest", "()I"⟩, 13) := ⟨⟨by decide +kernel, by decide +kernel⟩, List.mem_of_getElem? (i := 728) (by decide +kernel), List.mem_of_getElem? (i := 873) (by decide +kernel), List.mem_of_getElem? (i := 874) (by decide +kernel)⟩
theorem lw_p25 : lw_okq (⟨"KnockControlModel", "learns", "(I)V"⟩, 13) := ⟨⟨by decide +kernel, by decide +kernel⟩, List.mem_of_getElem? (i := 728) (by decide +kernel), List.mem_of_getElem? (i := 877) (by decide +kernel), List.mem_of_getElem? (i := 878) (by decide +kernel)⟩
theorem lw_p26 : lw_okq (⟨"KnockControlModel", "fires", "(III)I"⟩, 13) := ⟨⟨by decide +kernel, by decide +kernel⟩, List.mem_of_getElem? (i := 728) (by decide +kernel), List.mem_of_getElem? (i := 888) (by decide +kernel), List.mem_of_getElem? (i := 889) (by decide +kernel)⟩
theorem lw_p27 : lw_okq (⟨"KnockControlModel", "advance", "(III)I"⟩, 13) := ⟨⟨by decide +kernel, by decide +kernel⟩, List.mem_of_getElem? (i := 728) (by decide +kernel), List.mem_of_getElem? (i := 895) (by decide +kernel), List.mem_of_getElem? (i := 896) (by decide +kernel)⟩
theorem lw_p28 : lw_okq (⟨"KnockControlModel", "retard", "(II)I"⟩, 13) := ⟨⟨by decide +kernel, by decide +kernel⟩, List.mem_of_getElem? (i := 728) (by decide +kernel), List.mem_of_getElem? (i := 899) (by decide +kernel), List.mem_of_getElem? (i := 900) (by decide +kernel)⟩
theorem lw_p29 : lw_okq (⟨"KnockControlModel", "isCylinder", "(I)Z"⟩, 13) := ⟨⟨by decide +kernel, by decide +kernel⟩, List.mem_of_getElem? (i := 728) (by decide +kernel), List.mem_of_getElem? (i := 919) (by decide +kernel), List.mem_of_getElem? (i := 920) (by decide +kernel)⟩
theorem lw_p30 : lw_okq (⟨"KnockControlModel", "tellCylinder", "(II)I"⟩, 13) := ⟨⟨by decide +kernel, by decide +kernel⟩, List.mem_of_getElem? (i := 728) (by decide +kernel), List.mem_of_getElem? (i := 923) (by decide +kernel), List.mem_of_getElem? (i := 924) (by decide +kernel)⟩
theorem lw_p31 : lw_okq (⟨"KnockControlModel", "laysAside", "()V"⟩, 13) := ⟨⟨by decide +kernel, by decide +kernel⟩, List.mem_of_getElem? (i := 728) (by decide +kernel), List.mem_of_getElem? (i := 987) (by decide +kernel), List.mem_of_getElem? (i := 988) (by decide +kernel)⟩
def lw_privs_2 : List (MethodName × Nat) := [(⟨"KnockControlModel", "saves", "()V"⟩, 13), (⟨"KnockControlModel", "treats", "(III)I"⟩, 13), (⟨"KnockControlModel", "senses", "(I)V"⟩, 13), (⟨"KnockControlModel", "logs", "(II)V"⟩, 13), (⟨"KnockControlModel", "threshold", "(I)I"⟩, 13), (⟨"KnockControlModel", "knocks", "(IIII)V"⟩, 13), (⟨"KnockControlModel", "rests", "(II)V"⟩, 13), (⟨"KnockControlModel", "evens", "()V"⟩, 13), (⟨"KnockControlModel", "greatest", "()I"⟩, 13), (⟨"KnockControlModel", "learns", "(I)V"⟩, 13), (⟨"KnockControlModel", "fires", "(III)I"⟩, 13), (⟨"KnockControlModel", "advance", "(III)I"⟩, 13), (⟨"KnockControlModel", "retard", "(II)I"⟩, 13), (⟨"KnockControlModel", "isCylinder", "(I)Z"⟩, 13), (⟨"KnockControlModel", "tellCylinder", "(II)I"⟩, 13), (⟨"KnockControlModel", "laysAside", "()V"⟩, 13)]
theorem lw_r2 : ∀ q ∈ lw_privs_2, lw_okq q := List.forall_mem_cons.mpr ⟨lw_p16, List.forall_mem_cons.mpr ⟨lw_p17, List.forall_mem_cons.mpr ⟨lw_p18, List.forall_mem_cons.mpr ⟨lw_p19, List.forall_mem_cons.mpr ⟨lw_p20, List.forall_mem_cons.mpr ⟨lw_p21, List.forall_mem_cons.mpr ⟨lw_p22, List.forall_mem_cons.mpr ⟨lw_p23, List.forall_mem_cons.mpr ⟨lw_p24, List.forall_mem_cons.mpr ⟨lw_p25, List.forall_mem_cons.mpr ⟨lw_p26, List.forall_mem_cons.mpr ⟨lw_p27, List.forall_mem_cons.mpr ⟨lw_p28, List.forall_mem_cons.mpr ⟨lw_p29, List.forall_mem_cons.mpr ⟨lw_p30, List.forall_mem_cons.mpr ⟨lw_p31, fun _ h => absurd h List.not_mem_nil⟩⟩⟩⟩⟩⟩⟩⟩⟩⟩⟩⟩⟩⟩⟩⟩
theorem lw_p32 : lw_okq (⟨"KnockControlModel", "takesBack", "()V"⟩, 13) := ⟨⟨by decide +kernel, by decide +kernel⟩, List.mem_of_getElem? (i := 728) (by decide +kernel), List.mem_of_getElem? (i := 991) (by decide +kernel), List.mem_of_getElem? (i := 992) (by decide +kernel)⟩
theorem lw_p33 : lw_okq (⟨"KnockControlModel", "readsFiring", "()Z"⟩, 13) := ⟨⟨by decide +kernel, by decide +kernel⟩, List.mem_of_getElem? (i := 728) (by decide +kernel), List.mem_of_getElem? (i := 1011) (by decide +kernel), List.mem_of_getElem? (i := 1012) (by decide +kernel)⟩
theorem lw_p34 : lw_okq (⟨"KnockControlModel", "reads", "(I)Z"⟩, 13) := ⟨⟨by decide +kernel, by decide +kernel⟩, List.mem_of_getElem? (i := 728) (by decide +kernel), List.mem_of_getElem? (i := 1015) (by decide +kernel), List.mem_of_getElem? (i := 1016) (by decide +kernel)⟩
theorem lw_p35 : lw_okq (⟨"KnockControlModel", "isDigit", "()Z"⟩, 13) := ⟨⟨by decide +kernel, by decide +kernel⟩, List.mem_of_getElem? (i := 728) (by decide +kernel), List.mem_of_getElem? (i := 1019) (by decide +kernel), List.mem_of_getElem? (i := 1020) (by decide +kernel)⟩
theorem lw_p36 : lw_okq (⟨"KnockControlModel", "mix", "(I)V"⟩, 13) := ⟨⟨by decide +kernel, by decide +kernel⟩, List.mem_of_getElem? (i := 728) (by decide +kernel), List.mem_of_getElem? (i := 1028) (by decide +kernel), List.mem_of_getElem? (i := 1029) (by decide +kernel)⟩
theorem lw_p37 : lw_okq (⟨"KnockControlModel", "mixAll", "(II)V"⟩, 13) := ⟨⟨by decide +kernel, by decide +kernel⟩, List.mem_of_getElem? (i := 728) (by decide +kernel), List.mem_of_getElem? (i := 1033) (by decide +kernel), List.mem_of_getElem? (i := 1034) (by decide +kernel)⟩
def lw_privs_3 : List (MethodName × Nat) := [(⟨"KnockControlModel", "takesBack", "()V"⟩, 13), (⟨"KnockControlModel", "readsFiring", "()Z"⟩, 13), (⟨"KnockControlModel", "reads", "(I)Z"⟩, 13), (⟨"KnockControlModel", "isDigit", "()Z"⟩, 13), (⟨"KnockControlModel", "mix", "(I)V"⟩, 13), (⟨"KnockControlModel", "mixAll", "(II)V"⟩, 13)]
theorem lw_r3 : ∀ q ∈ lw_privs_3, lw_okq q := List.forall_mem_cons.mpr ⟨lw_p32, List.forall_mem_cons.mpr ⟨lw_p33, List.forall_mem_cons.mpr ⟨lw_p34, List.forall_mem_cons.mpr ⟨lw_p35, List.forall_mem_cons.mpr ⟨lw_p36, List.forall_mem_cons.mpr ⟨lw_p37, fun _ h => absurd h List.not_mem_nil⟩⟩⟩⟩⟩⟩
def lw_privs : List (MethodName × Nat) := lw_privs_1 ++ (lw_privs_2 ++ (lw_privs_3))
def lw_tbl : List Cond := k2_sels lw_privs ++ tables_1
theorem lw_privs_ok : ∀ q ∈ lw_privs, lw_okq q := by
  show ∀ q ∈ lw_privs_1 ++ (lw_privs_2 ++ (lw_privs_3)), lw_okq q
  exact List.forall_mem_append.mpr ⟨lw_r1, List.forall_mem_append.mpr ⟨lw_r2, lw_r3⟩⟩
/-- the streams that the claim lets the run draw from -/
abbrev lw_cs : List Choice := [Jvm.Choice.named "NaN.bits"]
theorem lw_bits : nanBits ∈ lw_cs := by first | decide | exact List.mem_cons_self | simp [lw_cs, nanBits]
end
section
/-! ===== BEGIN words of one list among another's, by their places ===== -/
theorem goodIn_r {big : List Cond} (ws : List Cond) (ps : List Nat) (hp : ws = ps.filterMap (fun i => big[i]?)) (h : ws.all goodWord = true) : GoodIn big ws := by
  intro w hw
  have h1 := List.all_eq_true.mp h w hw
  rw [hp] at hw
  obtain ⟨i, -, hi⟩ := List.mem_filterMap.mp hw
  have hm : w ∈ big := by first | exact List.mem_of_getElem? hi | exact List.getElem?_mem hi
  exact ⟨hm, good_of_word h1⟩
theorem goodIn_app {big a b : List Cond} (ha : GoodIn big a) (hb : GoodIn big b) : GoodIn big (a ++ b) := fun w h => (List.mem_append.mp h).elim (ha w) (hb w)
theorem goodIn_ca {big a b : List Cond} {c : Cond} (ha : GoodIn big (c :: a)) (hb : GoodIn big b) : GoodIn big (c :: (a ++ b)) := fun w h => (List.mem_cons.mp h).elim (fun e => ha w (List.mem_cons.mpr (Or.inl e))) (fun h => (List.mem_append.mp h).elim (fun h => ha w (List.mem_cons.mpr (Or.inr h))) (hb w))
theorem goodIn_sub {big ws : List Cond} (hm : ∀ w ∈ ws, w ∈ big) (h : ws.all goodWord = true) : GoodIn big ws := fun w hw => ⟨hm w hw, good_of_word (List.all_eq_true.mp h w hw)⟩
/-! ===== END ===== -/

/-! ===== BEGIN exceptions that leave a method, and their catching by the caller (launches without stack traces) ===== -/
section VXA
/-! The laws vx_back, vx_callV, vx_callS, vx_callSW, vx_throw0, vx_throwS follow proofs of the library, with one case more: JvmDerived/Free/Laws.lean (Back.of_free), Shelf42/LK1.lean (callV, callS), Shelf/KitTraced.lean (throwNew0V, throwNewS). -/
/-- where a method has thrown q: the class by its name, the cell, what was written, the world -/
def vx_T (XC : String → State → State → Prop) (st : State) (q : Addr) (t : State) (mc ms : Nat) (free : Addr → Prop) : Prop :=
  ∃ (E : String) (ce : Cell) (L : List Loc), XC E st t ∧ t.heap[q]? = some ce ∧ ce.vm = .none ∧ st.vm.findClass E = some ce.cls ∧ st.WarmedH t.vm ∧ st.sameButNew ({ t with vm := st.vm } : State) L mc ms ∧ ∀ z ∈ L, free z.base
def vx_Q (Qc : Array Value → State → Outcome → State → Prop) (XC : String → State → State → Prop) (mc ms : Nat) (free : Addr → Prop) : Array Value → State → Outcome → State → Prop := fun a st o t =>
  (Qc a st o t ∧ ∃ L, FrameEnd st o t L mc ms ∧ ∀ q ∈ L, free q.base) ∨ ∃ q, o = .threw q ∧ vx_T XC st q t mc ms free
/-- a callee that returns or throws -/
def vx_Met (l : Launch) (y : MethodName) (ws : List Cond) (rm : Room) (Pc : Array Value → State → Prop) (Qc : Array Value → State → Outcome → State → Prop) (XC : String → State → State → Prop) (mc ms : Nat) (free : Addr → Prop) : Prop :=
  MetFree l y (headSpec ws rm) Pc (fun _ _ _ _ _ => True) (vx_Q Qc XC mc ms free)
def vx_Post (XC : String → State → State → Prop) (mc ms : Nat) (free : Addr → Prop) : Pt → Array Value → Addr → Pt → Prop := fun A a q B =>
  ∃ (g : JFrame) (mk : MethodId) (t : State) (L : List Loc) (E : String) (ce : Cell), B.U.heap = t.heap ∧ B.U.vm = t.vm ∧ XC E (A.U.calling g mk a) t ∧ t.heap[q]? = some ce ∧ ce.vm = .none ∧ A.U.vm.findClass E = some ce.cls ∧ B.locs = A.locs ++ L ∧ (∀ z ∈ L, free z.base) ∧ B.cells = A.cells + mc ∧ B.slots = A.slots + ms
def vx_Back (l : Launch) (R : Room) (p : Program) (e : Env) (below : List Frame) (s : State) (sargs : Array Value) (y : MethodName) (len W9 : Nat)
    (Pre : Pt → Array Value → Prop) (Post : Pt → Array Value → Option Value → Pt → Prop) (PostX : Pt → Array Value → Addr → Pt → Prop) : Prop :=
  ∀ (m : MethodId) (meth : Method) (c : Code) (A : Pt) (g : JFrame) (ig : Instr) (mk : MethodId) (a : Array Value),
    Stand p l e R s m sargs below meth c A.U A.locs A.cells A.slots → g.method = m → g.locals.size = c.maxLocals → decode c.code g.pc = .ok (ig, len) →
    2 * g.monitorRoom + (g.stack.map fun v => v.category).sum ≤ W9 → A.U.methodNamed? y = some mk → Pre A a →
    (∃ (v : Option Value) (B : Pt), Stand p l e R s m sargs below meth c B.U B.locs B.cells B.slots ∧ Post A a v B ∧
      Steps p.tables e below (doInvoke e (A.U.setTop g) [] mk a).1 (B.U.setTop { g with pc := g.pc + len, stack := v.toList ++ g.stack })) ∨
    (∃ (q : Addr) (B : Pt), Stand p l e R s m sargs below meth c B.U B.locs B.cells B.slots ∧ PostX A a q B ∧
      Steps p.tables e below (doInvoke e (A.U.setTop g) [] mk a).1 ((B.U.setTop g).pushFrame (.throwing q)))
section Payer
variable {l : Launch} {R : Room} {p : Program} {e : Env} {below : List Frame} {s : State} {sargs : Array Value} {y : MethodName} {len W9 : Nat}
theorem vx_back {ws : List Cond} {rm : Room} {Pc : Array Value → State → Prop} {Qc : Array Value → State → Outcome → State → Prop} {XC : String → State → State → Prop} {mc ms : Nat} {free : Addr → Prop} {bytes : ByteArray} {maxL : Nat} {ret : Option FieldType}
    (hM : vx_Met l y ws rm Pc Qc XC mc ms free) (hblind : FrameBlind Pc) (hrc : rm.cells = mc) (hrs : rm.slots = ms)
    (hframes : rm.frames + 1 ≤ R.frames) (hlocals : W9 + (maxL + 11) + rm.locals ≤ R.locals)
    (hws : ∀ w ∈ ws, ∀ a' U, s.WarmedH U.vm → w.before a' U = true) (hcode : Cond.code y bytes maxL ret ∈ ws) (hinit : ∀ a' U, s.WarmedH U.vm → (Cond.initialized y.cls).before a' U = true) :
    vx_Back l R p e below s sargs y len W9 (PreOf R mc ms Pc) (PostOf Qc mc ms free) (vx_Post XC mc ms free) := by
  intro m meth c A g ig mk a X hg hsize hdg hW hn hp
  have h1 : (headSpec ws rm).pre.before a A.U = true := atoms_intro fun w hw => hws w hw _ _ X.warmed
  have h2 : (Cond.code y bytes maxL ret).before a A.U = true := hws _ hcode _ _ X.warmed
  have h3 : (Cond.initialized y.cls).before a A.U = true := hinit _ _ X.warmed
  have h4 : A.cells + (headSpec ws rm).room.cells ≤ R.cells := by rw [show (headSpec ws rm).room.cells = mc from hrc]; exact hp.1
  have h5 : A.slots + (headSpec ws rm).room.slots ≤ R.slots := by rw [show (headSpec ws rm).room.slots = ms from hrs]; exact hp.2.1
  have hPc : Pc a (A.U.calling g mk a) := hblind _ _ _ _ hp.2.2
  obtain ⟨U, Ls, c0, s0⟩ := A
  dsimp only [Pt.U, Pt.locs, Pt.cells, Pt.slots] at h1 h2 h3 h4 h5 X hn hPc ⊢
  obtain ⟨methY, cY, hmY, hcY, -, hlY, -, -, -, -⟩ := Cond.code_spec hn h2
  obtain ⟨kY, hkY, -⟩ := className_of_methodNamed hn
  have hinitY : kY.init = .initialized := Cond.initialized_spec (findClass_of_methodNamed hn) hkY h3
  have h : At U g.method c below := by rw [hg]; exact X.here
  have hlocals9 : W9 + (maxL + 11) + (headSpec ws rm).room.locals ≤ R.locals := hlocals
  have happ : (headSpec ws rm).appliesLoose y e.platform (U.calling g mk a) = true :=
    Spec.appliesLoose_calling (g := g) h hdg hn hkY hinitY
      (X.room_calling (g := g) (R' := (headSpec ws rm).room) hsize hmY hcY hframes (by rw [hlY]; omega) h4 h5) h1
  obtain ⟨mid, hmid⟩ := h.above
  have hfr : (U.setTop g).frames = (.java g :: mid) ++ below := by rw [State.frames_setTop' g h.top, hmid]; rfl
  obtain ⟨o, s₂, hsteps, -, hend, hq⟩ := Steps.callFree hM p X.admits X.cas X.clock (acts := []) hfr happ hPc trivial
  have hq' : vx_Q Qc XC mc ms free a (U.calling g mk a) o s₂ := hq
  rw [State.frames_setTop' g h.top] at hend
  obtain ⟨g₀, hg0⟩ := Option.isSome_iff_exists.mp h.top
  obtain ⟨r, hr⟩ := State.topJava?_eq_some.mp hg0
  have hr' : (({ U with heap := s₂.heap, slotsUsed := s₂.slotsUsed } : State).setVm s₂.vm).frames = .java g₀ :: r := hr
  rcases hq' with ⟨hqc, L, hfe, hL⟩ | ⟨q, rfl, E, ce, L, hx, hce, hcv, hcl, hW₂, hsm, hL⟩
  · obtain ⟨⟨v, rfl⟩, hW₂, e2, q2, q3, q4, q5, q6⟩ := id hfe
    have e3 : s₂ = ({ (U.calling g mk a).setFrames s₂.frames with heap := s₂.heap, slotsUsed := s₂.slotsUsed } : State).setVm s₂.vm := by
      have : s₂ = ({ s₂ with vm := (U.calling g mk a).vm } : State).setVm s₂.vm := rfl
      rw [e2] at this
      exact this
    obtain ⟨c₂, i₂, len₂, hc₂, hd₂, hf₂⟩ := hend
    have hW' : U.WarmedH s₂.vm := hW₂
    have hcc : c₂ = c := by
      have h1 : s₂.code? g.method = U.code? g.method := by
        rw [State.code?_eq, State.code?_eq, hW'.alike.method?]
      exact Option.some.inj (hc₂.symm.trans (h1.trans h.code))
    subst hcc
    have hlen : len₂ = len := by rw [hdg] at hd₂; cases hd₂; rfl
    subst hlen
    have hs₂ : s₂ = (({ U with heap := s₂.heap, slotsUsed := s₂.slotsUsed } : State).setVm s₂.vm).setTop { g with pc := g.pc + len₂, stack := v.toList ++ g.stack } := by
      refine e3.trans ?_
      rw [hf₂, State.calling_eq h.top, State.setFrames_setFrames, State.setTop_of_frames _ hr', hr]
      rfl
    have hsame : U.sameButNew ({ U with heap := s₂.heap, slotsUsed := s₂.slotsUsed } : State) L mc ms := by
      refine ⟨?_, q2, q3, q4, q5, q6⟩
      obtain ⟨t, ht, -⟩ := State.frames_cons hr
      show ({ U with heap := s₂.heap, slotsUsed := s₂.slotsUsed } : State) = { U.setFrames U.frames with heap := s₂.heap, slotsUsed := s₂.slotsUsed }
      rw [State.setFrames_self ht]
    subst hg
    refine Or.inl ⟨v, ⟨(({ U with heap := s₂.heap, slotsUsed := s₂.slotsUsed } : State).setVm s₂.vm), Ls ++ L, c0 + mc, s0 + ms⟩,
      ⟨X.admits, X.cas, X.clock, X.frames, X.room, X.hears, X.method, X.code, (X.here.setHeapUsed s₂.heap s₂.slotsUsed).setVm hW'.alike, X.tail, State.WarmedH.trans X.warmed hW', X.limits, X.bytes, X.same.trans (hsame.setVm s.vm)⟩,
      ⟨g, mk, s₂, L, rfl, rfl, hqc, rfl, hL, rfl, rfl⟩, ?_⟩
    show Steps p.tables e below _ ((({ U with heap := s₂.heap, slotsUsed := s₂.slotsUsed } : State).setVm s₂.vm).setTop { g with pc := g.pc + len₂, stack := v.toList ++ g.stack })
    rw [← hs₂]
    exact hsteps
  · obtain ⟨e2, q2, q3, q4, q5, q6⟩ := id hsm
    have e3 : s₂ = ({ (U.calling g mk a).setFrames s₂.frames with heap := s₂.heap, slotsUsed := s₂.slotsUsed } : State).setVm s₂.vm := by
      have : s₂ = ({ s₂ with vm := (U.calling g mk a).vm } : State).setVm s₂.vm := rfl
      rw [e2] at this
      exact this
    have hf₂ : s₂.frames = .throwing q :: .java g :: U.frames.tail := hend
    have hW' : U.WarmedH s₂.vm := hW₂
    have hs₂ : s₂ = ((({ U with heap := s₂.heap, slotsUsed := s₂.slotsUsed } : State).setVm s₂.vm).setTop g).pushFrame (.throwing q) := by
      refine e3.trans ?_
      rw [hf₂, State.calling_eq h.top, State.setFrames_setFrames, State.pushFrame, State.frames_setTop _ hr', State.setTop_of_frames _ hr', State.setFrames_setFrames, hr]
      rfl
    have hsame : U.sameButNew ({ U with heap := s₂.heap, slotsUsed := s₂.slotsUsed } : State) L mc ms := by
      refine ⟨?_, q2, q3, q4, q5, q6⟩
      obtain ⟨t, ht, -⟩ := State.frames_cons hr
      show ({ U with heap := s₂.heap, slotsUsed := s₂.slotsUsed } : State) = { U.setFrames U.frames with heap := s₂.heap, slotsUsed := s₂.slotsUsed }
      rw [State.setFrames_self ht]
    subst hg
    refine Or.inr ⟨q, ⟨(({ U with heap := s₂.heap, slotsUsed := s₂.slotsUsed } : State).setVm s₂.vm), Ls ++ L, c0 + mc, s0 + ms⟩,
      ⟨X.admits, X.cas, X.clock, X.frames, X.room, X.hears, X.method, X.code, (X.here.setHeapUsed s₂.heap s₂.slotsUsed).setVm hW'.alike, X.tail, State.WarmedH.trans X.warmed hW', X.limits, X.bytes, X.same.trans (hsame.setVm s.vm)⟩,
      ⟨g, mk, s₂, L, E, ce, rfl, rfl, hx, hce, hcv, hcl, rfl, hL, rfl, rfl⟩, ?_⟩
    show Steps p.tables e below _ (((({ U with heap := s₂.heap, slotsUsed := s₂.slotsUsed } : State).setVm s₂.vm).setTop g).pushFrame (.throwing q))
    rw [← hs₂]
    exact hsteps
end Payer
section Calls
variable {p : Program} {l : Launch} {e : Env} {R : Room} {s : State} {m : MethodId} {args : Array Value} {below : List Frame} {meth : Method} {c : Code} {T : State} {locs : List Loc} {cells slots : Nat}
theorem vx_callV (X : Stand p l e R s m args below meth c T locs cells slots) (hexec : p.tables.exec = Jvm.exec) {own C : String} {index : Nat} {y : MethodName} {bytes : ByteArray} {maxL : Nat} {ret : Option FieldType}
    (hown : s.vm.findClass own = some m.cls) (hlink : (Cond.methodLink own index y).before args s = true) (hinst : (Cond.instanceMethod y).before args s = true) (hsel : (Cond.selects C y y).before args s = true)
    (hcode : (Cond.code y bytes maxL ret).before args s = true) (hy : y.cls ≠ "java/lang/invoke/MethodHandle" ∧ y.cls ≠ "java/lang/invoke/VarHandle")
    {W9 : Nat} {Pre : Pt → Array Value → Prop} {Post : Pt → Array Value → Option Value → Pt → Prop} {PostX : Pt → Array Value → Addr → Pt → Prop} (hK : vx_Back l R p e below s args y 3 W9 Pre Post PostX)
    {b : Addr} {cellB : Cell} (hcell : T.heap[b]? = some cellB) (hobj : cellB.vm.isStatics = false) (hcls : s.vm.findClass C = some cellB.cls)
    {g : JFrame} (hg : g.method = m) (hsize : g.locals.size = c.maxLocals) {argsL rest : List Value} (hlen : ∀ sig, parseMethodDescriptor y.desc = some sig → argsL.length = sig.parameters.length)
    (hstack : g.stack = argsL.reverse ++ .ref b :: rest) (hW : 2 * g.monitorRoom + (rest.map fun v => v.category).sum ≤ W9) (hdg : decode c.code g.pc = .ok (.invokevirtual index, 3))
    (hpre : ∀ vm₁, s.WarmedH vm₁ → Pre ⟨T.setVm vm₁, locs, cells, slots⟩ (Value.ref b :: argsL).toArray) :
    (∃ (v : Option Value) (vm₁ : Vm) (B : Pt), s.WarmedH vm₁ ∧ Stand p l e R s m args below meth c B.U B.locs B.cells B.slots ∧ Post ⟨T.setVm vm₁, locs, cells, slots⟩ (Value.ref b :: argsL).toArray v B ∧
      ∀ target, Steps p.tables e below (B.U.setTop { g with pc := g.pc + 3, stack := v.toList ++ rest }) target → Steps p.tables e below (T.setTop g) target) ∨
    (∃ (q : Addr) (vm₁ : Vm) (B : Pt), s.WarmedH vm₁ ∧ Stand p l e R s m args below meth c B.U B.locs B.cells B.slots ∧ PostX ⟨T.setVm vm₁, locs, cells, slots⟩ (Value.ref b :: argsL).toArray q B ∧
      Steps p.tables e below (T.setTop g) ((B.U.setTop { g with stack := rest }).pushFrame (.throwing q))) := by
  obtain ⟨mk, methM, hnamed, hmethM, hstM, habM⟩ := Cond.instanceMethod_spec hinst
  obtain ⟨methM', cM, hmethM', -, -, -, -, -, -, hsigM⟩ := Cond.code_spec hnamed hcode
  cases hmethM.symm.trans hmethM'
  obtain ⟨c2, r2, m2, q1, q2, q3, q4, kP, hkP, hkPi⟩ := Cond.selects_spec hsel
  cases hcls.symm.trans q1
  cases (State.methodFound?_of_named hnamed hy).symm.trans q2
  cases hnamed.symm.trans q3
  have hselP : selectMethod e.platform s.vm cellB.cls mk = .method mk := by rw [Launch.admits_selectMethod X.admits]; exact q4
  obtain ⟨vm₁, X₁, hstep₁⟩ := X.invokevirtual hexec hown hlink hnamed hmethM hstM hkP hkPi hy (a := b) (cell := cellB) hcell
    (fun z h => by rw [h] at hobj; cases hobj) hselP hmethM habM hkP hkPi (g := g) hg (argsL := argsL) (rest := rest) (hlen _ hsigM) hstack hdg
  rcases hK m meth c ⟨T.setVm vm₁, locs, cells, slots⟩ { g with stack := rest } (.invokevirtual index) mk (Value.ref b :: argsL).toArray X₁ hg hsize hdg hW (X₁.named hnamed) (hpre vm₁ X₁.warmed) with ⟨v, B, X', hpost, hsteps⟩ | ⟨q, B, X', hpost, hsteps⟩
  · exact Or.inl ⟨v, vm₁, B, X₁.warmed, X', hpost, fun target h => hstep₁ _ fun acts => by rw [doInvoke_state]; exact hsteps.trans h⟩
  · exact Or.inr ⟨q, vm₁, B, X₁.warmed, X', hpost, hstep₁ _ fun acts => by rw [doInvoke_state]; exact hsteps⟩
theorem vx_callS (X : Stand p l e R s m args below meth c T locs cells slots) (hexec : p.tables.exec = Jvm.exec) {own : String} {index : Nat} {y : MethodName} {bytes : ByteArray} {maxL : Nat} {ret : Option FieldType}
    (hown : s.vm.findClass own = some m.cls) (hlink : (Cond.methodLink own index y).before args s = true) (hstat : (Cond.static y).before args s = true) (hinit : (Cond.initialized y.cls).before args s = true)
    (hcode : (Cond.code y bytes maxL ret).before args s = true) (hy : y.cls ≠ "java/lang/invoke/MethodHandle" ∧ y.cls ≠ "java/lang/invoke/VarHandle")
    {W9 : Nat} {Pre : Pt → Array Value → Prop} {Post : Pt → Array Value → Option Value → Pt → Prop} {PostX : Pt → Array Value → Addr → Pt → Prop} (hK : vx_Back l R p e below s args y 3 W9 Pre Post PostX)
    {g : JFrame} (hg : g.method = m) (hsize : g.locals.size = c.maxLocals) {argsL rest : List Value} (hlen : ∀ sig, parseMethodDescriptor y.desc = some sig → argsL.length = sig.parameters.length)
    (hstack : g.stack = argsL.reverse ++ rest) (hW : 2 * g.monitorRoom + (rest.map fun v => v.category).sum ≤ W9) (hdg : decode c.code g.pc = .ok (.invokestatic index, 3))
    (hpre : ∀ vm₁, s.WarmedH vm₁ → Pre ⟨T.setVm vm₁, locs, cells, slots⟩ argsL.toArray) :
    (∃ (v : Option Value) (vm₁ : Vm) (B : Pt), s.WarmedH vm₁ ∧ Stand p l e R s m args below meth c B.U B.locs B.cells B.slots ∧ Post ⟨T.setVm vm₁, locs, cells, slots⟩ argsL.toArray v B ∧
      ∀ target, Steps p.tables e below (B.U.setTop { g with pc := g.pc + 3, stack := v.toList ++ rest }) target → Steps p.tables e below (T.setTop g) target) ∨
    (∃ (q : Addr) (vm₁ : Vm) (B : Pt), s.WarmedH vm₁ ∧ Stand p l e R s m args below meth c B.U B.locs B.cells B.slots ∧ PostX ⟨T.setVm vm₁, locs, cells, slots⟩ argsL.toArray q B ∧
      Steps p.tables e below (T.setTop g) ((B.U.setTop { g with stack := rest }).pushFrame (.throwing q))) := by
  obtain ⟨mk, hnamed⟩ := Cond.code_named hcode
  obtain ⟨methM, cM, hmethM, -, -, -, -, -, -, hsigM⟩ := Cond.code_spec hnamed hcode
  have hstatic : methM.isStatic = true := Cond.static_spec hnamed hmethM hstat
  obtain ⟨kP, hkP, -⟩ := className_of_methodNamed hnamed
  have hinitP : kP.init = .initialized := Cond.initialized_spec (findClass_of_methodNamed hnamed) hkP hinit
  obtain ⟨vm₁, X₁, hstep₁⟩ := X.invokestatic hexec hown hlink hnamed hmethM hstatic hkP hinitP hy (g := g) hg (argsL := argsL) (rest := rest) (hlen _ hsigM) hstack hdg
  rcases hK m meth c ⟨T.setVm vm₁, locs, cells, slots⟩ { g with stack := rest } (.invokestatic index) mk argsL.toArray X₁ hg hsize hdg hW (X₁.named hnamed) (hpre vm₁ X₁.warmed) with ⟨v, B, X', hpost, hsteps⟩ | ⟨q, B, X', hpost, hsteps⟩
  · exact Or.inl ⟨v, vm₁, B, X₁.warmed, X', hpost, fun target h => hstep₁ _ fun acts => by rw [doInvoke_state]; exact hsteps.trans h⟩
  · exact Or.inr ⟨q, vm₁, B, X₁.warmed, X', hpost, hstep₁ _ fun acts => by rw [doInvoke_state]; exact hsteps⟩
end Calls
theorem vx_cls {s : State} {T : State} {vm₁ : Vm} {E : String} {k : ClassId} (hW : s.WarmedH vm₁) (h : (T.setVm vm₁).vm.findClass E = some k) : s.vm.findClass E = some k := by
  have h1 : vm₁.findClass E = some k := h
  rw [hW.alike.findClass] at h1
  exact h1
/-- the method's frame g, with q thrown over it -/
def vx_W (p : Program) (l : Launch) (e : Env) (R : Room) (s : State) (m : MethodId) (args : Array Value) (below : List Frame) (meth : Method) (c : Code) (H : Heap) (locs : List Loc) (cells slots : Nat) (Q : State → Prop) (g : JFrame) (q : Addr) : Prop :=
  ∀ T : State, T.heap = H → Stand p l e R s m args below meth c T locs cells slots → ∃ t, Steps p.tables e below ((T.setTop g).pushFrame (.throwing q)) t ∧ Q t
def vx_Run (p : Program) (l : Launch) (e : Env) (R : Room) (s : State) (m : MethodId) (args : Array Value) (below : List Frame) (meth : Method) (c : Code) (H : Heap) (locs : List Loc) (cells slots mc ms : Nat) (g : JFrame) (rest : List Value) (Qa : State → Outcome → State → Prop) (XC : String → State → State → Prop) (free : Addr → Prop) : Prop :=
  ∀ T : State, T.heap = H → Stand p l e R s m args below meth c T locs cells slots →
    (∃ (v : Option Value) (st₀ t T' : State) (L : List Loc), st₀.heap = H ∧ Stand p l e R s m args below meth c T' (locs ++ L) (cells + mc) (slots + ms) ∧ (∀ q ∈ L, free q.base) ∧ T'.heap = t.heap ∧ T'.vm = t.vm ∧ Qa st₀ (.returned v) t ∧
      Goes p e below T g T' { g with pc := g.pc + 3, stack := v.toList ++ rest }) ∨
    (∃ (q : Addr) (st₀ t T' : State) (L : List Loc) (E : String) (ce : Cell), st₀.heap = H ∧ Stand p l e R s m args below meth c T' (locs ++ L) (cells + mc) (slots + ms) ∧ (∀ z ∈ L, free z.base) ∧ T'.heap = t.heap ∧ T'.vm = t.vm ∧ XC E st₀ t ∧ t.heap[q]? = some ce ∧ ce.vm = .none ∧ s.vm.findClass E = some ce.cls ∧
      Steps p.tables e below (T.setTop g) ((T'.setTop { g with stack := rest }).pushFrame (.throwing q)))
def vx_X {S : Type} (px : S → Prop) (B : String → S → State → Prop) (A : Nat → Prop) : String → State → State → Prop := fun E st t => ∃ u : S, px u ∧ B E u t ∧ va_F A st t
section Runs
variable {p : Program} {l : Launch} {e : Env} {R : Room} {s : State} {m : MethodId} {args : Array Value} {below : List Frame} {meth : Method} {c : Code} {H : Heap} {locs : List Loc} {cells slots : Nat}
variable {y : MethodName} {bytes cc : ByteArray} {maxL nL mc ms n index : Nat} {ret : Option FieldType} {ws : List Cond} {rm : Room} {Pc : Array Value → State → Prop} {Qc : Array Value → State → Outcome → State → Prop} {XC : String → State → State → Prop} {free : Addr → Prop} {Ts : List Cond} {own C : String} {b : Addr} {As rest : List Value} {g : JFrame}
theorem vx_callBack (cb : CallB R s args own index y bytes maxL ret ws rm mc ms n) (hM : vx_Met l y ws rm Pc Qc XC mc ms free) (hbl : FrameBlind Pc) : vx_Back l R p e below s args y 3 8 (PreOf R mc ms Pc) (PostOf Qc mc ms free) (vx_Post XC mc ms free) := by
  obtain ⟨hrc, hrs, hfr, hlo, hws, hcw, -, hini, -⟩ := cb
  exact vx_back (bytes := bytes) (maxL := maxL) (ret := ret) hM hbl hrc hrs hfr hlo hws hcw (fun a' U hW => word_at hW (Or.inl (by first | rfl | simp [Cond.onTables, Cond.keeps, Cond.steady])) hini)
theorem vx_runV (S : CallFix p m c cc nL s args Ts own) (hM : vx_Met l y ws rm Pc Qc XC mc ms free) (cw : CallW R s args own C index y bytes maxL ret ws rm mc ms n) (hp : PreV s H C b Pc As)
    (hg : g.method = m) (hn : As.length = n) (hsize : g.locals.size = nL) (hstack : g.stack = As.reverse ++ .ref b :: rest) (hW : 2 * g.monitorRoom + (rest.map fun v => v.category).sum ≤ 8) (hdg : decode cc g.pc = .ok (.invokevirtual index, 3)) (hf : cells + mc ≤ R.cells ∧ slots + ms ≤ R.slots) :
    vx_Run p l e R s m args below meth c H locs cells slots mc ms g rest (Qc (Value.ref b :: As).toArray) XC free := by
  have hK : vx_Back l R p e below s args y 3 8 (PreOf R mc ms Pc) (PostOf Qc mc ms free) (vx_Post XC mc ms free) := vx_callBack cw.1 hM hp.1
  obtain ⟨⟨-, -, -, -, -, -, hcode, -, hy, hlen, hl⟩, hin, hse⟩ := cw
  obtain ⟨hx, hb, hml, ho, -⟩ := S
  obtain ⟨-, ⟨cellB, hcB, hoB, hclB⟩, hPc⟩ := hp
  intro T hT X
  rcases vx_callV X hx (C := C) (bytes := bytes) (maxL := maxL) (ret := ret) ho hl hin hse hcode hy hK (by rw [hT]; exact hcB) hoB hclB hg (hsize.trans hml.symm) (argsL := As) (rest := rest) (fun sig h => hn.trans (hlen sig h)) hstack hW (by rw [hb]; exact hdg)
    (fun vm₁ hW₁ => ⟨hf.1, hf.2, hPc (T.setVm vm₁) hT hW₁⟩) with ⟨v, vm₁, ⟨U', l2, c2, s2⟩, hW₁, X', ⟨g', mk, t, L, e1, e2, hq, h1, hL, h2, h3⟩, st⟩ | ⟨q, vm₁, ⟨U', l2, c2, s2⟩, hW₁, X', ⟨g', mk, t, L, E, ce, e1, e2, hq, hce, hcv, hcl, h1, hL, h2, h3⟩, st⟩
  · dsimp only [Pt.U, Pt.locs, Pt.cells, Pt.slots] at X' e1 e2 h1 h2 h3 st
    subst h1; subst h2; subst h3
    exact Or.inl ⟨v, (T.setVm vm₁).calling g' mk (Value.ref b :: As).toArray, t, U', L, hT, X', hL, e1, e2, hq, st⟩
  · dsimp only [Pt.U, Pt.locs, Pt.cells, Pt.slots] at X' e1 e2 h1 h2 h3 st hcl
    subst h1; subst h2; subst h3
    exact Or.inr ⟨q, (T.setVm vm₁).calling g' mk (Value.ref b :: As).toArray, t, U', L, E, ce, hT, X', hL, e1, e2, hq, hce, hcv, vx_cls hW₁ hcl, st⟩
theorem vx_runS (S : CallFix p m c cc nL s args Ts own) (hM : vx_Met l y ws rm Pc Qc XC mc ms free) (cw : CallB R s args own index y bytes maxL ret ws rm mc ms n ∧ (Cond.static y).before args s = true) (hp : PreS s H Pc As)
    (hg : g.method = m) (hn : As.length = n) (hsize : g.locals.size = nL) (hstack : g.stack = As.reverse ++ rest) (hW : 2 * g.monitorRoom + (rest.map fun v => v.category).sum ≤ 8) (hdg : decode cc g.pc = .ok (.invokestatic index, 3)) (hf : cells + mc ≤ R.cells ∧ slots + ms ≤ R.slots) :
    vx_Run p l e R s m args below meth c H locs cells slots mc ms g rest (Qc As.toArray) XC free := by
  have hK : vx_Back l R p e below s args y 3 8 (PreOf R mc ms Pc) (PostOf Qc mc ms free) (vx_Post XC mc ms free) := vx_callBack cw.1 hM hp.1
  obtain ⟨⟨-, -, -, -, -, -, hcode, hini, hy, hlen, hl⟩, hstt⟩ := cw
  obtain ⟨hx, hb, hml, ho, -⟩ := S
  intro T hT X
  rcases vx_callS X hx (bytes := bytes) (maxL := maxL) (ret := ret) ho hl hstt hini hcode hy hK hg (hsize.trans hml.symm) (argsL := As) (rest := rest) (fun sig h => hn.trans (hlen sig h)) hstack hW (by rw [hb]; exact hdg)
    (fun vm₁ hW₁ => ⟨hf.1, hf.2, hp.2 (T.setVm vm₁) hT hW₁⟩) with ⟨v, vm₁, ⟨U', l2, c2, s2⟩, hW₁, X', ⟨g', mk, t, L, e1, e2, hq, h1, hL, h2, h3⟩, st⟩ | ⟨q, vm₁, ⟨U', l2, c2, s2⟩, hW₁, X', ⟨g', mk, t, L, E, ce, e1, e2, hq, hce, hcv, hcl, h1, hL, h2, h3⟩, st⟩
  · dsimp only [Pt.U, Pt.locs, Pt.cells, Pt.slots] at X' e1 e2 h1 h2 h3 st
    subst h1; subst h2; subst h3
    exact Or.inl ⟨v, (T.setVm vm₁).calling g' mk As.toArray, t, U', L, hT, X', hL, e1, e2, hq, st⟩
  · dsimp only [Pt.U, Pt.locs, Pt.cells, Pt.slots] at X' e1 e2 h1 h2 h3 st hcl
    subst h1; subst h2; subst h3
    exact Or.inr ⟨q, (T.setVm vm₁).calling g' mk As.toArray, t, U', L, E, ce, hT, X', hL, e1, e2, hq, hce, hcv, vx_cls hW₁ hcl, st⟩
end Runs
section Rows
variable {p : Program} {l : Launch} {e : Env} {R : Room} {s : State} {m : MethodId} {args : Array Value} {below : List Frame} {meth : Method} {c : Code} {H : Heap} {locs : List Loc} {cells slots : Nat} {Q : State → Prop}
variable {mc ms : Nat} {free : Addr → Prop} {A0 A1 : Nat → Prop} {H0 : Heap} {a : Array Value} {pc : Nat} {ls : Array Slot} {st0 rest : List Value}
theorem vx_keep {st₀ t T' : State} {L : List Loc} (h0 : st₀.heap = H) (e1 : T'.heap = t.heap) (hS : va_S A0 H0 H locs) (hA : ∀ q, q < H.size → A1 q → A0 q) (hf : ∀ q, free q → A0 q) (hL : ∀ q ∈ L, free q.base) (hF : va_F A1 st₀ t) :
    H.size ≤ T'.heap.size ∧ (∀ q : Nat, q < H.size → ¬ A1 q → T'.heap[q]? = H[q]?) ∧ va_S A0 H0 T'.heap (locs ++ L) := by
  obtain ⟨hz, hk⟩ := hF
  rw [h0] at hz hk
  exact ⟨by rw [e1]; exact hz, fun q h1 h2 => by rw [e1]; exact hk q h1 h2,
    ⟨Nat.le_trans hS.1 (by rw [e1]; exact hz), fun q h1 h2 => by rw [e1, hk q (Nat.lt_of_lt_of_le h1 hS.1) (fun z => h2 (hA q (Nat.lt_of_lt_of_le h1 hS.1) z))]; exact hS.2.1 q h1 h2, fun q hq => by
      rcases List.mem_append.mp hq with h | h
      · exact hS.2.2 q h
      · exact hf _ (hL q h)⟩⟩
theorem vx_calli {S SX : Type} {post : Int32 → S → Prop} {px : SX → Prop} {B : S → State → Prop} {BX : String → SX → State → Prop} {AX : Nat → Prop} (hr : vx_Run p l e R s m args below meth c H locs cells slots mc ms (F0 m pc ls st0) rest (va_Qi post B A1 a) (vx_X px BX AX) free) (hS : va_S A0 H0 H locs) (hA : ∀ q, q < H.size → A1 q → A0 q) (hf : ∀ q, free q → A0 q) (hAX : ∀ q, q < H.size → AX q → A0 q)
    (kx : ∀ (E : String) (ce : Cell) (q9 : Addr) (u : SX) (t : State) (H1 : Heap) (locs1 : List Loc), t.heap = H1 → s.vm.Alike t.vm → px u → BX E u t → H.size ≤ H1.size → (∀ q : Nat, q < H.size → ¬ AX q → H1[q]? = H[q]?) → va_S A0 H0 H1 locs1 → H1[q9]? = some ce → ce.vm = .none → s.vm.findClass E = some ce.cls → vx_W p l e R s m args below meth c H1 locs1 (cells + mc) (slots + ms) Q (F0 m pc ls rest) q9)
    (kk : ∀ (r : Int32) (u : S) (t : State) (H1 : Heap) (locs1 : List Loc), t.heap = H1 → s.vm.Alike t.vm → post r u → B u t → H.size ≤ H1.size → (∀ q : Nat, q < H.size → ¬ A1 q → H1[q]? = H[q]?) → va_S A0 H0 H1 locs1 → W p l e R s m args below meth c H1 locs1 (cells + mc) (slots + ms) Q (F0 m (pc + 3) ls (.int r :: rest))) : W p l e R s m args below meth c H locs cells slots Q (F0 m pc ls st0) := by
  intro T hT X
  rcases hr T hT X with ⟨v, st₀, t, T', L, h0, X', hL, e1, e2, ⟨⟨r, u, hv, hp, hb⟩, hF⟩, st⟩ | ⟨q, st₀, t, T', L, E, ce, h0, X', hL, e1, e2, ⟨u, hp, hb, hF⟩, hce, hcv, hcl, st⟩
  · cases hv
    obtain ⟨k1, k2, k3⟩ := vx_keep h0 e1 hS hA hf hL hF
    obtain ⟨t2, a1, b1⟩ := kk r u t T'.heap (locs ++ L) e1.symm (by rw [← e2]; exact X'.warmed.alike) hp hb k1 k2 k3 T' rfl X'
    exact ⟨t2, st t2 a1, b1⟩
  · obtain ⟨k1, k2, k3⟩ := vx_keep h0 e1 hS hAX hf hL hF
    obtain ⟨t2, a1, b1⟩ := kx E ce q u t T'.heap (locs ++ L) e1.symm (by rw [← e2]; exact X'.warmed.alike) hp hb k1 k2 k3 (by rw [e1]; exact hce) hcv hcl T' rfl X'
    exact ⟨t2, st.trans a1, b1⟩
theorem vx_calll {S SX : Type} {post : Int64 → S → Prop} {px : SX → Prop} {B : S → State → Prop} {BX : String → SX → State → Prop} {AX : Nat → Prop} (hr : vx_Run p l e R s m args below meth c H locs cells slots mc ms (F0 m pc ls st0) rest (va_Ql post B A1 a) (vx_X px BX AX) free) (hS : va_S A0 H0 H locs) (hA : ∀ q, q < H.size → A1 q → A0 q) (hf : ∀ q, free q → A0 q) (hAX : ∀ q, q < H.size → AX q → A0 q)
    (kx : ∀ (E : String) (ce : Cell) (q9 : Addr) (u : SX) (t : State) (H1 : Heap) (locs1 : List Loc), t.heap = H1 → s.vm.Alike t.vm → px u → BX E u t → H.size ≤ H1.size → (∀ q : Nat, q < H.size → ¬ AX q → H1[q]? = H[q]?) → va_S A0 H0 H1 locs1 → H1[q9]? = some ce → ce.vm = .none → s.vm.findClass E = some ce.cls → vx_W p l e R s m args below meth c H1 locs1 (cells + mc) (slots + ms) Q (F0 m pc ls rest) q9)
    (kk : ∀ (r : Int64) (u : S) (t : State) (H1 : Heap) (locs1 : List Loc), t.heap = H1 → s.vm.Alike t.vm → post r u → B u t → H.size ≤ H1.size → (∀ q : Nat, q < H.size → ¬ A1 q → H1[q]? = H[q]?) → va_S A0 H0 H1 locs1 → W p l e R s m args below meth c H1 locs1 (cells + mc) (slots + ms) Q (F0 m (pc + 3) ls (.long r :: rest))) : W p l e R s m args below meth c H locs cells slots Q (F0 m pc ls st0) := by
  intro T hT X
  rcases hr T hT X with ⟨v, st₀, t, T', L, h0, X', hL, e1, e2, ⟨⟨r, u, hv, hp, hb⟩, hF⟩, st⟩ | ⟨q, st₀, t, T', L, E, ce, h0, X', hL, e1, e2, ⟨u, hp, hb, hF⟩, hce, hcv, hcl, st⟩
  · cases hv
    obtain ⟨k1, k2, k3⟩ := vx_keep h0 e1 hS hA hf hL hF
    obtain ⟨t2, a1, b1⟩ := kk r u t T'.heap (locs ++ L) e1.symm (by rw [← e2]; exact X'.warmed.alike) hp hb k1 k2 k3 T' rfl X'
    exact ⟨t2, st t2 a1, b1⟩
  · obtain ⟨k1, k2, k3⟩ := vx_keep h0 e1 hS hAX hf hL hF
    obtain ⟨t2, a1, b1⟩ := kx E ce q u t T'.heap (locs ++ L) e1.symm (by rw [← e2]; exact X'.warmed.alike) hp hb k1 k2 k3 (by rw [e1]; exact hce) hcv hcl T' rfl X'
    exact ⟨t2, st.trans a1, b1⟩
theorem vx_callf {S SX : Type} {post : UInt32 → S → Prop} {px : SX → Prop} {B : S → State → Prop} {BX : String → SX → State → Prop} {AX : Nat → Prop} (hr : vx_Run p l e R s m args below meth c H locs cells slots mc ms (F0 m pc ls st0) rest (va_Qf post B A1 a) (vx_X px BX AX) free) (hS : va_S A0 H0 H locs) (hA : ∀ q, q < H.size → A1 q → A0 q) (hf : ∀ q, free q → A0 q) (hAX : ∀ q, q < H.size → AX q → A0 q)
    (kx : ∀ (E : String) (ce : Cell) (q9 : Addr) (u : SX) (t : State) (H1 : Heap) (locs1 : List Loc), t.heap = H1 → s.vm.Alike t.vm → px u → BX E u t → H.size ≤ H1.size → (∀ q : Nat, q < H.size → ¬ AX q → H1[q]? = H[q]?) → va_S A0 H0 H1 locs1 → H1[q9]? = some ce → ce.vm = .none → s.vm.findClass E = some ce.cls → vx_W p l e R s m args below meth c H1 locs1 (cells + mc) (slots + ms) Q (F0 m pc ls rest) q9)
    (kk : ∀ (r : UInt32) (u : S) (t : State) (H1 : Heap) (locs1 : List Loc), t.heap = H1 → s.vm.Alike t.vm → post r u → B u t → H.size ≤ H1.size → (∀ q : Nat, q < H.size → ¬ A1 q → H1[q]? = H[q]?) → va_S A0 H0 H1 locs1 → W p l e R s m args below meth c H1 locs1 (cells + mc) (slots + ms) Q (F0 m (pc + 3) ls (.float r :: rest))) : W p l e R s m args below meth c H locs cells slots Q (F0 m pc ls st0) := by
  intro T hT X
  rcases hr T hT X with ⟨v, st₀, t, T', L, h0, X', hL, e1, e2, ⟨⟨r, u, hv, hp, hb⟩, hF⟩, st⟩ | ⟨q, st₀, t, T', L, E, ce, h0, X', hL, e1, e2, ⟨u, hp, hb, hF⟩, hce, hcv, hcl, st⟩
  · cases hv
    obtain ⟨k1, k2, k3⟩ := vx_keep h0 e1 hS hA hf hL hF
    obtain ⟨t2, a1, b1⟩ := kk r u t T'.heap (locs ++ L) e1.symm (by rw [← e2]; exact X'.warmed.alike) hp hb k1 k2 k3 T' rfl X'
    exact ⟨t2, st t2 a1, b1⟩
  · obtain ⟨k1, k2, k3⟩ := vx_keep h0 e1 hS hAX hf hL hF
    obtain ⟨t2, a1, b1⟩ := kx E ce q u t T'.heap (locs ++ L) e1.symm (by rw [← e2]; exact X'.warmed.alike) hp hb k1 k2 k3 (by rw [e1]; exact hce) hcv hcl T' rfl X'
    exact ⟨t2, st.trans a1, b1⟩
theorem vx_calld {S SX : Type} {post : UInt64 → S → Prop} {px : SX → Prop} {B : S → State → Prop} {BX : String → SX → State → Prop} {AX : Nat → Prop} (hr : vx_Run p l e R s m args below meth c H locs cells slots mc ms (F0 m pc ls st0) rest (va_Qd post B A1 a) (vx_X px BX AX) free) (hS : va_S A0 H0 H locs) (hA : ∀ q, q < H.size → A1 q → A0 q) (hf : ∀ q, free q → A0 q) (hAX : ∀ q, q < H.size → AX q → A0 q)
    (kx : ∀ (E : String) (ce : Cell) (q9 : Addr) (u : SX) (t : State) (H1 : Heap) (locs1 : List Loc), t.heap = H1 → s.vm.Alike t.vm → px u → BX E u t → H.size ≤ H1.size → (∀ q : Nat, q < H.size → ¬ AX q → H1[q]? = H[q]?) → va_S A0 H0 H1 locs1 → H1[q9]? = some ce → ce.vm = .none → s.vm.findClass E = some ce.cls → vx_W p l e R s m args below meth c H1 locs1 (cells + mc) (slots + ms) Q (F0 m pc ls rest) q9)
    (kk : ∀ (r : UInt64) (u : S) (t : State) (H1 : Heap) (locs1 : List Loc), t.heap = H1 → s.vm.Alike t.vm → post r u → B u t → H.size ≤ H1.size → (∀ q : Nat, q < H.size → ¬ A1 q → H1[q]? = H[q]?) → va_S A0 H0 H1 locs1 → W p l e R s m args below meth c H1 locs1 (cells + mc) (slots + ms) Q (F0 m (pc + 3) ls (.double r :: rest))) : W p l e R s m args below meth c H locs cells slots Q (F0 m pc ls st0) := by
  intro T hT X
  rcases hr T hT X with ⟨v, st₀, t, T', L, h0, X', hL, e1, e2, ⟨⟨r, u, hv, hp, hb⟩, hF⟩, st⟩ | ⟨q, st₀, t, T', L, E, ce, h0, X', hL, e1, e2, ⟨u, hp, hb, hF⟩, hce, hcv, hcl, st⟩
  · cases hv
    obtain ⟨k1, k2, k3⟩ := vx_keep h0 e1 hS hA hf hL hF
    obtain ⟨t2, a1, b1⟩ := kk r u t T'.heap (locs ++ L) e1.symm (by rw [← e2]; exact X'.warmed.alike) hp hb k1 k2 k3 T' rfl X'
    exact ⟨t2, st t2 a1, b1⟩
  · obtain ⟨k1, k2, k3⟩ := vx_keep h0 e1 hS hAX hf hL hF
    obtain ⟨t2, a1, b1⟩ := kx E ce q u t T'.heap (locs ++ L) e1.symm (by rw [← e2]; exact X'.warmed.alike) hp hb k1 k2 k3 (by rw [e1]; exact hce) hcv hcl T' rfl X'
    exact ⟨t2, st.trans a1, b1⟩
theorem vx_callv {S SX : Type} {post : S → Prop} {px : SX → Prop} {B : S → State → Prop} {BX : String → SX → State → Prop} {AX : Nat → Prop} (hr : vx_Run p l e R s m args below meth c H locs cells slots mc ms (F0 m pc ls st0) rest (va_Qv post B A1 a) (vx_X px BX AX) free) (hS : va_S A0 H0 H locs) (hA : ∀ q, q < H.size → A1 q → A0 q) (hf : ∀ q, free q → A0 q) (hAX : ∀ q, q < H.size → AX q → A0 q)
    (kx : ∀ (E : String) (ce : Cell) (q9 : Addr) (u : SX) (t : State) (H1 : Heap) (locs1 : List Loc), t.heap = H1 → s.vm.Alike t.vm → px u → BX E u t → H.size ≤ H1.size → (∀ q : Nat, q < H.size → ¬ AX q → H1[q]? = H[q]?) → va_S A0 H0 H1 locs1 → H1[q9]? = some ce → ce.vm = .none → s.vm.findClass E = some ce.cls → vx_W p l e R s m args below meth c H1 locs1 (cells + mc) (slots + ms) Q (F0 m pc ls rest) q9)
    (kk : ∀ (u : S) (t : State) (H1 : Heap) (locs1 : List Loc), t.heap = H1 → s.vm.Alike t.vm → post u → B u t → H.size ≤ H1.size → (∀ q : Nat, q < H.size → ¬ A1 q → H1[q]? = H[q]?) → va_S A0 H0 H1 locs1 → W p l e R s m args below meth c H1 locs1 (cells + mc) (slots + ms) Q (F0 m (pc + 3) ls (rest))) : W p l e R s m args below meth c H locs cells slots Q (F0 m pc ls st0) := by
  intro T hT X
  rcases hr T hT X with ⟨v, st₀, t, T', L, h0, X', hL, e1, e2, ⟨⟨u, hv, hp, hb⟩, hF⟩, st⟩ | ⟨q, st₀, t, T', L, E, ce, h0, X', hL, e1, e2, ⟨u, hp, hb, hF⟩, hce, hcv, hcl, st⟩
  · cases hv
    obtain ⟨k1, k2, k3⟩ := vx_keep h0 e1 hS hA hf hL hF
    obtain ⟨t2, a1, b1⟩ := kk u t T'.heap (locs ++ L) e1.symm (by rw [← e2]; exact X'.warmed.alike) hp hb k1 k2 k3 T' rfl X'
    exact ⟨t2, st t2 a1, b1⟩
  · obtain ⟨k1, k2, k3⟩ := vx_keep h0 e1 hS hAX hf hL hF
    obtain ⟨t2, a1, b1⟩ := kx E ce q u t T'.heap (locs ++ L) e1.symm (by rw [← e2]; exact X'.warmed.alike) hp hb k1 k2 k3 (by rw [e1]; exact hce) hcv hcl T' rfl X'
    exact ⟨t2, st.trans a1, b1⟩
/-- caught by the row x of this method's table; the rows ahead don't take it -/
theorem vx_catch {own name : String} {E : String} {ce : Cell} {q : Addr} (hown : s.vm.findClass own = some m.cls) (pre : List ExceptionTableEntry) (x : ExceptionTableEntry) (suf : List ExceptionTableEntry) (hsplit : c.exceptionTable.toList = pre ++ x :: suf)
    (hpass : ∀ z ∈ pre, covers z pc = false ∨ (z.catchType ≠ 0 ∧ ∃ nm : String, (Cond.classLink own z.catchType nm).before args s = true ∧ va_Nc E nm s)) (hx : covers x pc = true) (h0 : x.catchType ≠ 0)
    (hlink : (Cond.classLink own x.catchType name).before args s = true) (hcast : (Cond.castable E name).before args s = true) (hcell : H[q]? = some ce) (hv : ce.vm = .none) (hcl : s.vm.findClass E = some ce.cls)
    (kk : W p l e R s m args below meth c H locs cells slots Q (F0 m x.handlerPc ls [.ref q])) : vx_W p l e R s m args below meth c H locs cells slots Q (F0 m pc ls rest) q := by
  intro T hT X
  have hpl : e.platform.magicAccessors = ({} : Platform).magicAccessors := by rw [X.admits.platform]
  obtain ⟨c3, c4, hc3, hc4, hasg⟩ := Cond.castable_spec hcast
  cases Option.some.inj (hc3.symm.trans hcl)
  obtain ⟨c5, hc5, hcl5⟩ := Cond.classLink_spec hown hlink e.platform hpl
  cases Option.some.inj (hc4.symm.trans hc5)
  obtain ⟨vm', X', st⟩ := X.thenCaughtThrough q (g := F0 m pc ls rest) rfl (Steps.refl _) (by rw [hT]; exact hcell) (by rw [hv]; rfl) (by obtain ⟨k9, h9, -⟩ := Vm.findClass_spec hcl; exact ⟨k9, h9⟩) pre x suf hsplit
    (fun z hz => by
      rcases hpass z hz with h | ⟨hz0, nm, hl1, hn1⟩
      · exact Or.inl h
      · obtain ⟨c6, hc6, hcl6⟩ := Cond.classLink_spec hown hl1 e.platform hpl
        obtain ⟨a8, b8, h1, h2, h3⟩ := hn1
        cases Option.some.inj (h1.symm.trans hcl)
        cases Option.some.inj (h2.symm.trans hc6)
        exact Or.inr ⟨hz0, _, hcl6, h3⟩) hx (Or.inr ⟨h0, c4, hcl5, hasg⟩)
  obtain ⟨t, a1, b1⟩ := kk (T.setVm vm') hT X'
  exact ⟨t, st.trans a1, b1⟩
end Rows
section Ends
variable {p : Program} {l : Launch} {e : Env} {R : Room} {s : State} {m : MethodId} {args : Array Value} {below : List Frame} {meth : Method} {c : Code} {H : Heap} {locs : List Loc} {cells slots : Nat} {Q : State → Prop}
variable {mc ms : Nat} {free : Addr → Prop} {A0 A1 : Nat → Prop} {H0 : Heap} {a : Array Value} {ls : Array Slot} {st0 rest : List Value}
variable {Qc : Array Value → State → Outcome → State → Prop} {XC : String → State → State → Prop}
/-- what a body that may throw owes at its end -/
def vx_MQ (below : List Frame) (Qc : Array Value → State → Outcome → State → Prop) (XC : String → State → State → Prop) (a : Array Value) (s : State) (mc ms : Nat) (free : Addr → Prop) : State → Prop := fun t =>
  ∃ o, t.status = .running ∧ Ended t below o ∧ vx_Q Qc XC mc ms free a s o t
theorem vx_ret {g : JFrame} {mc ms : Nat} (k : W p l e R s m args below meth c H locs cells slots (MQ below Qc args s mc ms free) g) : W p l e R s m args below meth c H locs cells slots (vx_MQ below Qc XC args s mc ms free) g := by
  intro T hT X
  obtain ⟨t, a1, o, b1, b2, b3, b4⟩ := k T hT X
  exact ⟨t, a1, o, b1, b2, Or.inl ⟨b3, b4⟩⟩
/-- not caught here: it goes on to the caller -/
theorem vx_widen {g : JFrame} {q : Addr} {k n : Nat} (h1 : cells ≤ k) (h2 : slots ≤ n) (kk : vx_W p l e R s m args below meth c H locs k n Q g q) : vx_W p l e R s m args below meth c H locs cells slots Q g q := fun T hT X => kk T hT (stand_widen X h1 h2)
theorem vx_out {pc : Nat} {E : String} {ce : Cell} {q : Addr} {mc ms : Nat} (hout : ∀ x ∈ c.exceptionTable.toList, covers x pc = false) (hlocks : meth.locks = false) (hcell : H[q]? = some ce) (hv : ce.vm = .none) (hcl : s.vm.findClass E = some ce.cls)
    (hx : ∀ t : State, t.heap = H → s.vm.Alike t.vm → XC E s t) (hf : ∀ z ∈ locs, free z.base) (hc : cells ≤ mc) (hs : slots ≤ ms) :
    vx_W p l e R s m args below meth c H locs cells slots (vx_MQ below Qc XC args s mc ms free) (F0 m pc ls rest) q := by
  intro T hT X
  obtain ⟨st1, hrun, hend, hW, hsm⟩ := X.leaveThrown q (g := F0 m pc ls rest) rfl rfl rfl hout hlocks
  have hcell9 : (T.setFrames (.throwing q :: below)).heap[q]? = some ce := by
    show T.heap[q]? = some ce
    rw [hT]; exact hcell
  exact ⟨_, st1, .threw q, hrun, hend, Or.inr ⟨q, rfl, E, ce, locs, hx _ hT hW.alike, hcell9, hv, hcl, hW, hsm.mono hc hs, hf⟩⟩
theorem vx_frame {U : State} {k n : Nat} (h : s.sameButNew ({ U with vm := s.vm } : State) locs k n) : s.heap.size ≤ U.heap.size ∧ ∀ q : Nat, q < s.heap.size → (∀ z ∈ locs, z.base ≠ q) → U.heap[q]? = s.heap[q]? := by
  obtain ⟨-, h2, -, -, -, h6⟩ := h
  refine ⟨h2, fun q hq hz => ?_⟩
  obtain ⟨c9, e1, e2, e3, e4⟩ := h6 q _ (Array.getElem?_eq_getElem hq)
  have hs : c9.slots = (s.heap[q]).slots := Array.ext_getElem? fun i => e4 i fun hm => hz _ hm rfl
  have h9 : c9 = s.heap[q] := by
    rw [hs] at e2
    exact e2
  have e5 : U.heap[q]? = some c9 := e1
  rw [e5, h9, Array.getElem?_eq_getElem hq]
/-- the words of a throw but the four that speak of the heap -/
def vx_no (w : Cond) : Bool := decide (w ≠ .isRef (.static Bundle.tN "UNASSIGNED_STACK" Bundle.steD)) && decide (w ≠ .isRef (.static Bundle.tN "SUPPRESSED_SENTINEL" Bundle.listD)) && decide (w ≠ .laysStatic Bundle.tN "UNASSIGNED_STACK" Bundle.steD) && decide (w ≠ .laysStatic Bundle.tN "SUPPRESSED_SENTINEL" Bundle.listD)
def vx_at0 (own : String) (ic : Nat) (X : String) (names : List String) : List Cond := (Bundle.ownAtoms0 own ic X names).filter vx_no
def vx_atS (own : String) (ic : Nat) (X : String) (names : List String) : List Cond := (Bundle.ownAtoms own ic X names).filter vx_no
/-- a word that the tables alone decide, or a good one -/
def vx_ot (w : Cond) : Bool := w.onTables || goodWord w
theorem vx_ot_at {args a' : Array Value} {s U : State} {w : Cond} (hW : s.WarmedH U.vm) (hvm : s.vm = U.vm) (hg : vx_ot w = true) (h : w.before args s = true) : w.before a' U = true := by
  simp only [vx_ot, Bool.or_eq_true] at hg
  rcases hg with hg | hg
  · exact va_tabs hg hvm h
  · exact word_at hW (good_of_word hg) h
/-- a list's words: the good ones out of the method's own list, the others by premises of their own -/
theorem vx_hat {args : Array Value} {s : State} {L B : List Cond} (h1 : ∀ w ∈ L.filter goodWord, w.before args s = true) (h2 : ∀ w ∈ L.filter (fun w => !goodWord w), w ∈ B) (h3 : ∀ w ∈ B, w.before args s = true) : ∀ w ∈ L, w.before args s = true := by
  intro w hw
  by_cases g : goodWord w = true
  · exact h1 w (List.mem_filter.mpr ⟨hw, g⟩)
  · refine h3 w (h2 w (List.mem_filter.mpr ⟨hw, ?_⟩))
    show (!goodWord w) = true
    cases hgw : goodWord w
    · rfl
    · exact absurd hgw g
theorem vx_c {args : Array Value} {s : State} {w : Cond} {B : List Cond} (h : w.before args s = true) (t : ∀ w ∈ B, w.before args s = true) : ∀ w' ∈ w :: B, w'.before args s = true := fun w' h' => (List.mem_cons.mp h').elim (fun e => by rw [e]; exact h) (t w')
theorem vx_n {args : Array Value} {s : State} : ∀ w ∈ ([] : List Cond), w.before args s = true := fun _ h => nomatch h
theorem vx_own {args : Array Value} {s : State} {L : List Cond} (h1 : ∀ w ∈ L.filter vx_no, w.before args s = true)
    (hU : (Cond.isRef (.static Bundle.tN "UNASSIGNED_STACK" Bundle.steD)).before args s = true) (hN : (Cond.isRef (.static Bundle.tN "SUPPRESSED_SENTINEL" Bundle.listD)).before args s = true)
    (lU : (Cond.laysStatic Bundle.tN "UNASSIGNED_STACK" Bundle.steD).before args s = true) (lN : (Cond.laysStatic Bundle.tN "SUPPRESSED_SENTINEL" Bundle.listD).before args s = true) : ∀ w ∈ L, w.before args s = true := by
  intro w hw
  by_cases e1 : w = .isRef (.static Bundle.tN "UNASSIGNED_STACK" Bundle.steD)
  · rw [e1]; exact hU
  · by_cases e2 : w = .isRef (.static Bundle.tN "SUPPRESSED_SENTINEL" Bundle.listD)
    · rw [e2]; exact hN
    · by_cases e3 : w = .laysStatic Bundle.tN "UNASSIGNED_STACK" Bundle.steD
      · rw [e3]; exact lU
      · by_cases e4 : w = .laysStatic Bundle.tN "SUPPRESSED_SENTINEL" Bundle.listD
        · rw [e4]; exact lN
        · exact h1 w (List.mem_filter.mpr ⟨hw, by unfold vx_no; rw [decide_eq_true e1, decide_eq_true e2, decide_eq_true e3, decide_eq_true e4]; rfl⟩)
/-- where a static field lies, its class's statics cell in H -/
def vx_L (C n d : String) (A : Nat → Prop) (U : State) (H : Heap) : Prop := ∃ (c : ClassId) (k : Class) (i : Nat) (f : Field) (a : Nat) (cell : Cell), U.vm.findClass C = some c ∧ U.fieldFound? C n d = some (c, k, i, f) ∧ f.isStatic = true ∧ k.statics = some a ∧ H[a]? = some cell ∧ cell.vm.isStatics = true ∧ cell.cls = c ∧ f.slot < cell.slots.size ∧ k.staticTypes[f.slot]? = some f.type ∧ ¬ A a
theorem vx_L.moved {C n d : String} {A : Nat → Prop} {u U : State} {H : Heap} (hvm : u.vm.Alike U.vm) (h : vx_L C n d A u H) : vx_L C n d A U H := by
  obtain ⟨c, k, i, f, a, cell, h1, h2, h3, h4, h5, h6, h7, h8, h9, h10⟩ := h
  obtain ⟨k', hi', he⟩ := State.fieldFound?_setVm hvm h2
  exact ⟨c, k', i, f, a, cell, by rw [hvm.findClass]; exact h1, hi', h3, by rw [he]; exact h4, h5, h6, h7, h8, by rw [he]; exact h9, h10⟩
theorem vx_L.kept {C n d : String} {A : Nat → Prop} {U : State} {H H1 : Heap} (h : vx_L C n d A U H) (hq : ∀ a : Nat, a < H.size → ¬ A a → H1[a]? = H[a]?) : vx_L C n d A U H1 := by
  obtain ⟨c, k, i, f, a, cell, h1, h2, h3, h4, h5, h6, h7, h8, h9, h10⟩ := h
  exact ⟨c, k, i, f, a, cell, h1, h2, h3, h4, by rw [hq a (Array.getElem?_eq_some_iff.mp h5).1 h10]; exact h5, h6, h7, h8, h9, h10⟩
theorem vx_L.narrow {C n d : String} {A B : Nat → Prop} {U : State} {H : Heap} (h : vx_L C n d A U H) (hAB : ∀ q, B q → A q) : vx_L C n d B U H := by
  obtain ⟨c, k, i, f, a, cell, h1, h2, h3, h4, h5, h6, h7, h8, h9, h10⟩ := h
  exact ⟨c, k, i, f, a, cell, h1, h2, h3, h4, h5, h6, h7, h8, h9, fun z => h10 (hAB _ z)⟩
theorem vx_L.word {C n d : String} {A : Nat → Prop} {s : State} {args : Array Value} (h : vx_L C n d A s s.heap) : (Cond.laysStatic C n d).before args s = true := by
  obtain ⟨c, k, i, f, a, cell, h1, h2, h3, h4, h5, h6, h7, h8, h9, -⟩ := h
  show (Cond.laysStatic C n d).holds args s none s [] = true
  exact Cond.laysStatic_of h1 h2 h3 h4 h5 h6 h7 h8 h9
/-- .. and what it holds: null or some reference -/
def vx_Zq (C n d : String) (A : Nat → Prop) (U : State) (H : Heap) : Prop := va_Zq C n d A U H ∧ vx_L C n d A U H
theorem vx_Zq.moved {C n d : String} {A : Nat → Prop} {u U : State} {H : Heap} (hvm : u.vm.Alike U.vm) (h : vx_Zq C n d A u H) : vx_Zq C n d A U H := ⟨va_Zq.moved hvm h.1, vx_L.moved hvm h.2⟩
theorem vx_Zq.kept {C n d : String} {A : Nat → Prop} {U : State} {H H1 : Heap} (h : vx_Zq C n d A U H) (hq : ∀ a : Nat, a < H.size → ¬ A a → H1[a]? = H[a]?) : vx_Zq C n d A U H1 := ⟨va_Zq.kept h.1 hq, vx_L.kept h.2 hq⟩
theorem vx_Zq.narrow {C n d : String} {A B : Nat → Prop} {U : State} {H : Heap} (h : vx_Zq C n d A U H) (hAB : ∀ q, B q → A q) : vx_Zq C n d B U H := ⟨va_Zq.narrow h.1 hAB, vx_L.narrow h.2 hAB⟩
theorem vx_Zqof {args : Array Value} {s : State} {C n d : String} {A : Nat → Prop} (hl : (Cond.laysStatic C n d).before args s = true) (hini : (Cond.initialized C).before args s = true) (h : (Cond.isRef (.static C n d)).before args s = true) (hA : ∀ a : Nat, a < s.heap.size → ¬ A a) : vx_Zq C n d A s s.heap := by
  refine ⟨va_Zqof hl hini h hA, ?_⟩
  obtain ⟨c, k, i, f, a, cell, h1, h2, h3, h4, h5, h6, h7, h8, h9⟩ := Cond.laysStatic_spec hl
  exact ⟨c, k, i, f, a, cell, h1, h2, h3, h4, h5, h6, h7, h8, h9, hA a (Array.getElem?_eq_some_iff.mp h5).1⟩
theorem vx_isRef {C n d : String} {v : Value} {A : Nat → Prop} {s : State} {args : Array Value} (h : va_Z C n d v A s s.heap) (hv : v.isRef = true) : (Cond.isRef (.static C n d)).before args s = true := by
  obtain ⟨cf, kf, fi, f, a, cell, h1, h2, h3, h4, h5, h6, h7, -⟩ := h
  have he : (Term.static C n d).eval args s none [] s = some v := by
    simp [Term.eval, State.fieldNamed?, h1, h2, h4, h5, h6, h7]
  simp only [Cond.before, Cond.holds, Cond.value, he]
  cases v <;> simp_all [Value.isRef]
theorem vx_isRefq {C n d : String} {A : Nat → Prop} {s : State} {args : Array Value} (h : va_Zq C n d A s s.heap) : (Cond.isRef (.static C n d)).before args s = true := by
  rcases h with h | ⟨t, h⟩
  · exact vx_isRef h rfl
  · exact vx_isRef h rfl
/-- the same frame, seen from here: as if the method were called anew in this heap -/
theorem vx_rebase {T : State} (X : Stand p l e R s m args below meth c T locs cells slots) {R' : Room} (hf : R'.frames ≤ R.frames) (hl : R'.locals ≤ R.locals) (hc : cells + R'.cells ≤ R.cells) (hs : slots + R'.slots ≤ R.slots) :
    Stand p l e R' ((T.setVm s.vm).setFrames (.invoking m args :: below)) m args below meth c T [] 0 0 := by
  have htop : (T.setVm s.vm).topJava?.isSome := X.here.top
  have hF : ((T.setVm s.vm).setFrames (.invoking m args :: below)).frames = .invoking m args :: below := State.frames_setFrames _ (State.cur_lt_of_top htop)
  obtain ⟨g₀, hg0⟩ := Option.isSome_iff_exists.mp htop
  obtain ⟨r, hr⟩ := State.topJava?_eq_some.mp hg0
  have hl9 : e.platform.stackLimits (T.setVm s.vm).me = e.platform.stackLimits s.me := X.limits
  have hb9 : (T.setVm s.vm).me.stackBytes = s.me.stackBytes := X.bytes
  refine ⟨X.admits, X.cas, X.clock, hF, ?_, X.hears, X.method, X.code, X.here, X.tail, X.warmed, ?_, ?_, ?_⟩
  · have h := X.room
    have hU : ((T.setVm s.vm).setFrames (.invoking m args :: below)).localsInUse = s.localsInUse := by
      rw [State.localsInUse_invoking hF (meth := meth) (c := c) X.method X.code, State.localsInUse_invoking X.frames X.method X.code]
    simp only [State.hasRoom, Bool.and_eq_true, decide_eq_true_eq] at h ⊢
    obtain ⟨⟨⟨⟨h1, h2, h3, h4, h5, h6⟩, h7⟩, h8⟩, h9⟩ := h
    rw [X.frames, List.length_cons] at h2 h3
    have q1 := X.heapSize
    have q2 := X.used
    simp only [hF, hU, List.length_cons, State.stackLimits_setFrames, State.stackBytes_setFrames, hl9, hb9]
    refine ⟨⟨⟨⟨by omega, by omega, by omega, by omega, by omega, h6⟩, ?_⟩, ?_⟩, X.book⟩
    · show T.heap.size + R'.cells ≤ e.platform.maxCells
      omega
    · show T.slotsUsed + R'.slots ≤ e.platform.maxSlots
      omega
  · rw [State.stackLimits_setFrames]; rfl
  · rw [State.stackBytes_setFrames]; rfl
  · refine ⟨?_, Nat.le_refl _, Nat.le_refl _, ?_, ?_, fun a c9 h9 => ⟨c9, h9, rfl, rfl, fun _ _ => rfl⟩⟩
    · obtain ⟨t, ht, -⟩ := State.frames_cons hr
      show T.setVm s.vm = { ((T.setVm s.vm).setFrames (.invoking m args :: below)).setFrames (T.setVm s.vm).frames with heap := T.heap, slotsUsed := T.slotsUsed }
      rw [State.setFrames_setFrames, State.setFrames_self ht]
      rfl
    · show T.slotsUsed = T.slotsUsed + ((T.heap.toList.drop T.heap.size).map (·.slots.size)).sum
      rw [List.drop_eq_nil_of_le (Nat.le_of_eq Array.length_toList)]
      rfl
    · show ((T.heap.toList.drop T.heap.size).map (·.slots.size)).sum ≤ 0
      rw [List.drop_eq_nil_of_le (Nat.le_of_eq Array.length_toList)]
      exact Nat.le_refl _
/-- 'throw new E()': new; dup; invokespecial; athrow -/
theorem vx_throw0 {cc : ByteArray} {pc : Nat} (hexec : p.tables.exec = Jvm.exec) (hb : c.code = cc) (hl : l.stackTraces = false) {own cls : String} {names : List String} {ik ic mc ms : Nat} {A : Nat → Prop}
    (hown : s.vm.findClass own = some m.cls) (hcls : Bundle.fit cls = true) (hnames : ∀ n ∈ names, Bundle.fit n = true)
    (hk : (Cond.classLink own ik cls).before args s = true) (hini : (Cond.initialized cls).before args s = true) (hat : ∀ w ∈ vx_at0 own ic cls names, w.before args s = true)
    (hgood : ∀ w ∈ Cond.classLink own ik cls :: Cond.initialized cls :: vx_at0 own ic cls names, vx_ot w = true)
    (hU : vx_Zq Bundle.tN "UNASSIGNED_STACK" Bundle.steD A s s.heap) (hN : vx_Zq Bundle.tN "SUPPRESSED_SENTINEL" Bundle.listD A s s.heap) (hS : va_S A s.heap H locs) (hsize : ls.size = c.maxLocals)
    (d0 : decode cc pc = .ok (.new ik, 3)) (d3 : decode cc (pc + 3) = .ok (.dup, 1)) (d4 : decode cc (pc + 4) = .ok (.invokespecial ic, 3)) (d7 : decode cc (pc + 7) = .ok (.athrow, 1))
    (hout : ∀ x ∈ c.exceptionTable.toList, covers x (pc + 7) = false)
    (hRframes : names.length + 3 < R.frames) (hRlocals : (rest.map fun v => v.category).sum + (13 * (names.length + 1) + 42) ≤ R.locals) (hRcells : cells + 1 ≤ R.cells) (hRslots : slots + 6 ≤ R.slots) (hlocks : meth.locks = false)
    (hx : ∀ t : State, s.vm.Alike t.vm → H.size ≤ t.heap.size → (∀ q : Nat, q < H.size → t.heap[q]? = H[q]?) → XC cls s t)
    (hf : ∀ z ∈ locs, free z.base) (hc : cells + 1 ≤ mc) (hs : slots + 6 ≤ ms) :
    W p l e R s m args below meth c H locs cells slots (vx_MQ below Qc XC args s mc ms free) (F0 m pc ls rest) := by
  intro T hT X
  have htr : e.platform.stackTraces = false := (show e.platform.stackTraces = l.stackTraces by rw [X.admits.platform]).trans hl
  have Y := vx_rebase X (R' := { frames := R.frames, locals := R.locals, cells := 1, slots := 6 }) (Nat.le_refl _) (Nat.le_refl _) hRcells hRslots
  obtain ⟨s', hA⟩ : ∃ z, z = (T.setVm s.vm).setFrames (.invoking m args :: below) := ⟨_, rfl⟩
  rw [← hA] at Y
  have hvm : s'.vm = s.vm := by rw [hA]; rfl
  have hhp : s'.heap = H := by rw [hA]; exact hT
  have hW0 : s.WarmedH s'.vm := by rw [hvm]; exact State.WarmedH.refl s
  have hat' : ∀ w ∈ vx_at0 own ic cls names, w.before args s' = true := fun w hw => vx_ot_at hW0 hvm.symm (hgood w (List.mem_cons_of_mem _ (List.mem_cons_of_mem _ hw))) (hat w hw)
  have hk' : (Cond.classLink own ik cls).before args s' = true := vx_ot_at hW0 hvm.symm (hgood _ List.mem_cons_self) hk
  have hini' : (Cond.initialized cls).before args s' = true := vx_ot_at hW0 hvm.symm (hgood _ (List.mem_cons_of_mem _ List.mem_cons_self)) hini
  have hU' : vx_Zq Bundle.tN "UNASSIGNED_STACK" Bundle.steD A s' s'.heap := by rw [hhp]; exact vx_Zq.moved hW0.alike (hU.kept hS.2.1)
  have hN' : vx_Zq Bundle.tN "SUPPRESSED_SENTINEL" Bundle.listD A s' s'.heap := by rw [hhp]; exact vx_Zq.moved hW0.alike (hN.kept hS.2.1)
  have h : ∀ w ∈ Bundle.ownAtoms0 own ic cls names, w.before args s' = true := vx_own hat' (vx_isRefq hU'.1) (vx_isRefq hN'.1) hU'.2.word hN'.2.word
  have hown' : s'.vm.findClass own = some m.cls := by rw [hvm]; exact hown
  have hins : (Cond.instantiable cls 6).before args s' = true := h _ (by simp [Bundle.ownAtoms0])
  obtain ⟨vm₁, cX, kX, hfX, hkX, -, -, X₁, st1⟩ := Y.newCold hexec (own := own) (C := cls) (index := ik) (n := 6) hown' hk' hins hini'
    (g := F0 m pc ls rest) rfl (by rw [hb]; exact d0) (Nat.le_refl _) (Nat.le_refl _)
  generalize hT1 : (T.setVm vm₁).pushCell { cls := cX, slots := kX.instanceTypes.map defaultValue, vm := .none } = T1 at X₁ st1
  have hcat : (Value.ref T.heap.size).category = 1 := rfl
  have hcellA : T1.heap[T.heap.size]? = some (freshCell cX kX) := by rw [← hT1]; exact State.heap_pushCell_size _ _
  have d3' : decode c.code (pc + 3) = .ok (.dup, 1) := by rw [hb]; exact d3
  obtain ⟨U, hsteps, hrun, hend, hW, hsame, ce, hce, hO⟩ := X₁.ctorThrow0 hexec htr (own := own) (cls := cls) (names := names) (ic := ic) hown' hcls hnames h (fun x hx => nomatch hx) hfX hkX hcellA (by rw [hhp, hT]; exact Nat.le_refl _)
    (g := { method := m, pc := pc + 4, locals := ls, stack := .ref T.heap.size :: .ref T.heap.size :: rest, locked := none }) rfl hsize rfl rfl (rest := rest) rfl
    (by rw [hb]; exact d4) (by rw [hb]; exact d7) hout hRframes (by simp only [List.map_cons, List.sum_cons, hcat]; omega) hlocks
  obtain ⟨f1, f2⟩ := vx_frame hsame
  rw [hhp] at f1 f2
  have hWs : s.WarmedH U.vm := State.WarmedH.trans hW0 hW
  have hcl : s.vm.findClass cls = some ce.cls := by
    have h9 := hO.cls
    rw [hvm] at h9
    exact h9
  have hall : s.sameButNew ({ U with vm := s.vm } : State) locs mc ms := by
    subst hA
    obtain ⟨e1, e2⟩ := hsame
    rw [State.setFrames_setFrames] at e1
    have h2 : (T.setVm s.vm).sameButNew ({ U with vm := s.vm } : State) [] (0 + 1) (0 + 6) := ⟨e1, e2⟩
    have h3 := X.same.trans h2
    rw [List.append_nil] at h3
    exact h3.mono hc hs
  refine ⟨U, ?_, .threw T.heap.size, hrun, hend, Or.inr ⟨T.heap.size, rfl, cls, ce, locs, hx U hWs.alike f1 (fun q hq => f2 q hq (fun z hz => nomatch hz)), hce, hO.vm, hcl, hWs, hall, hf⟩⟩
  refine st1 _ ?_
  show Steps p.tables e below (T1.setTop { method := m, pc := pc + 3, locals := ls, stack := .ref T.heap.size :: rest, locked := none }) _
  jvm_step X₁.here [X₁.here.top, hexec, d3', Value.category]
  exact hsteps
/-- 'throw new E("text")': new; dup; ldc; invokespecial; athrow -/
theorem vx_throwS {cc : ByteArray} {pc : Nat} (hexec : p.tables.exec = Jvm.exec) (hb : c.code = cc) (hl : l.stackTraces = false) {own cls text : String} {names : List String} {ik is ic mc ms sa : Nat} {A : Nat → Prop}
    (hown : s.vm.findClass own = some m.cls) (hcls : Bundle.fit cls = true) (hnames : ∀ n ∈ names, Bundle.fit n = true)
    (hk : (Cond.classLink own ik cls).before args s = true) (hini : (Cond.initialized cls).before args s = true) (hstr : vk_R own is text sa s) (hat : ∀ w ∈ vx_atS own ic cls names, w.before args s = true)
    (hgood : ∀ w ∈ Cond.classLink own ik cls :: Cond.initialized cls :: vx_atS own ic cls names, vx_ot w = true)
    (hU : vx_Zq Bundle.tN "UNASSIGNED_STACK" Bundle.steD A s s.heap) (hN : vx_Zq Bundle.tN "SUPPRESSED_SENTINEL" Bundle.listD A s s.heap) (hS : va_S A s.heap H locs) (hsize : ls.size = c.maxLocals)
    (d0 : decode cc pc = .ok (.new ik, 3)) (d3 : decode cc (pc + 3) = .ok (.dup, 1)) (d4 : decode cc (pc + 4) = .ok (.ldc is, 2)) (d6 : decode cc (pc + 6) = .ok (.invokespecial ic, 3)) (d9 : decode cc (pc + 9) = .ok (.athrow, 1))
    (hout : ∀ x ∈ c.exceptionTable.toList, covers x (pc + 9) = false)
    (hRframes : names.length + 3 < R.frames) (hRlocals : (rest.map fun v => v.category).sum + (13 * (names.length + 1) + 43) ≤ R.locals) (hRcells : cells + 1 ≤ R.cells) (hRslots : slots + 6 ≤ R.slots) (hlocks : meth.locks = false)
    (hx : ∀ t : State, s.vm.Alike t.vm → H.size ≤ t.heap.size → (∀ q : Nat, q < H.size → t.heap[q]? = H[q]?) → XC cls s t)
    (hf : ∀ z ∈ locs, free z.base) (hc : cells + 1 ≤ mc) (hs : slots + 6 ≤ ms) :
    W p l e R s m args below meth c H locs cells slots (vx_MQ below Qc XC args s mc ms free) (F0 m pc ls rest) := by
  intro T hT X
  have htr : e.platform.stackTraces = false := (show e.platform.stackTraces = l.stackTraces by rw [X.admits.platform]).trans hl
  have Y := vx_rebase X (R' := { frames := R.frames, locals := R.locals, cells := 1, slots := 6 }) (Nat.le_refl _) (Nat.le_refl _) hRcells hRslots
  obtain ⟨s', hA⟩ : ∃ z, z = (T.setVm s.vm).setFrames (.invoking m args :: below) := ⟨_, rfl⟩
  rw [← hA] at Y
  have hvm : s'.vm = s.vm := by rw [hA]; rfl
  have hhp : s'.heap = H := by rw [hA]; exact hT
  have hW0 : s.WarmedH s'.vm := by rw [hvm]; exact State.WarmedH.refl s
  have hat' : ∀ w ∈ vx_atS own ic cls names, w.before args s' = true := fun w hw => vx_ot_at hW0 hvm.symm (hgood w (List.mem_cons_of_mem _ (List.mem_cons_of_mem _ hw))) (hat w hw)
  have hk' : (Cond.classLink own ik cls).before args s' = true := vx_ot_at hW0 hvm.symm (hgood _ List.mem_cons_self) hk
  have hini' : (Cond.initialized cls).before args s' = true := vx_ot_at hW0 hvm.symm (hgood _ (List.mem_cons_of_mem _ List.mem_cons_self)) hini
  have hU' : vx_Zq Bundle.tN "UNASSIGNED_STACK" Bundle.steD A s' s'.heap := by rw [hhp]; exact vx_Zq.moved hW0.alike (hU.kept hS.2.1)
  have hN' : vx_Zq Bundle.tN "SUPPRESSED_SENTINEL" Bundle.listD A s' s'.heap := by rw [hhp]; exact vx_Zq.moved hW0.alike (hN.kept hS.2.1)
  have h : ∀ w ∈ Bundle.ownAtoms own ic cls names, w.before args s' = true := vx_own hat' (vx_isRefq hU'.1) (vx_isRefq hN'.1) hU'.2.word hN'.2.word
  have hown' : s'.vm.findClass own = some m.cls := by rw [hvm]; exact hown
  have hins : (Cond.instantiable cls 6).before args s' = true := h _ (by simp [Bundle.ownAtoms])
  obtain ⟨vm₁, cX, kX, hfX, hkX, -, -, X₁, st1⟩ := Y.newCold hexec (own := own) (C := cls) (index := ik) (n := 6) hown' hk' hins hini'
    (g := F0 m pc ls rest) rfl (by rw [hb]; exact d0) (Nat.le_refl _) (Nat.le_refl _)
  generalize hT1 : (T.setVm vm₁).pushCell { cls := cX, slots := kX.instanceTypes.map defaultValue, vm := .none } = T1 at X₁ st1
  have hcat : (Value.ref T.heap.size).category = 1 := rfl
  have hcellA : T1.heap[T.heap.size]? = some (freshCell cX kX) := by rw [← hT1]; exact State.heap_pushCell_size _ _
  have d3' : decode c.code (pc + 3) = .ok (.dup, 1) := by rw [hb]; exact d3
  have d4' : decode c.code (pc + 4) = .ok (.ldc is, 2) := by rw [hb]; exact d4
  have hstr' : vk_R own is text sa s' := vk_R.warm hW0 hstr
  obtain ⟨U, hsteps, hrun, hend, hW, hsame, ce, hce, hO⟩ := X₁.ctorThrowS hexec htr (own := own) (cls := cls) (names := names) (ic := ic) hown' hcls hnames h (fun x hx => nomatch hx) hfX hkX hcellA (by rw [hhp, hT]; exact Nat.le_refl _) (msg := .ref sa) rfl
    (g := { method := m, pc := pc + 6, locals := ls, stack := .ref sa :: .ref T.heap.size :: .ref T.heap.size :: rest, locked := none }) rfl hsize rfl rfl (rest := rest) rfl
    (by rw [hb]; exact d6) (by rw [hb]; exact d9) hout hRframes (by simp only [List.map_cons, List.sum_cons, hcat]; omega) hlocks
  obtain ⟨f1, f2⟩ := vx_frame hsame
  rw [hhp] at f1 f2
  have hWs : s.WarmedH U.vm := State.WarmedH.trans hW0 hW
  have hcl : s.vm.findClass cls = some ce.cls := by
    have h9 := hO.cls
    rw [hvm] at h9
    exact h9
  have hall : s.sameButNew ({ U with vm := s.vm } : State) locs mc ms := by
    subst hA
    obtain ⟨e1, e2⟩ := hsame
    rw [State.setFrames_setFrames] at e1
    have h2 : (T.setVm s.vm).sameButNew ({ U with vm := s.vm } : State) [] (0 + 1) (0 + 6) := ⟨e1, e2⟩
    have h3 := X.same.trans h2
    rw [List.append_nil] at h3
    exact h3.mono hc hs
  refine ⟨U, ?_, .threw T.heap.size, hrun, hend, Or.inr ⟨T.heap.size, rfl, cls, ce, locs, hx U hWs.alike f1 (fun q hq => f2 q hq (fun z hz => nomatch hz)), hce, hO.vm, hcl, hWs, hall, hf⟩⟩
  refine st1 _ ?_
  show Steps p.tables e below (T1.setTop { method := m, pc := pc + 3, locals := ls, stack := .ref T.heap.size :: rest, locked := none }) _
  jvm_step X₁.here [X₁.here.top, hexec, d3', Value.category]
  exact X₁.ldcString hexec (own := own) (text := text) (index := is) (a := sa) hown' hstr'.1 hstr'.2
    (g := { method := m, pc := pc + 4, locals := ls, stack := .ref T.heap.size :: .ref T.heap.size :: rest, locked := none }) rfl d4' _ hsteps
/-- 'throw new E("text")', the text by a wide index -/
theorem vx_throwSW {cc : ByteArray} {pc : Nat} (hexec : p.tables.exec = Jvm.exec) (hb : c.code = cc) (hl : l.stackTraces = false) {own cls text : String} {names : List String} {ik is ic mc ms sa : Nat} {A : Nat → Prop}
    (hown : s.vm.findClass own = some m.cls) (hcls : Bundle.fit cls = true) (hnames : ∀ n ∈ names, Bundle.fit n = true)
    (hk : (Cond.classLink own ik cls).before args s = true) (hini : (Cond.initialized cls).before args s = true) (hstr : vk_R own is text sa s) (hat : ∀ w ∈ vx_atS own ic cls names, w.before args s = true)
    (hgood : ∀ w ∈ Cond.classLink own ik cls :: Cond.initialized cls :: vx_atS own ic cls names, vx_ot w = true)
    (hU : vx_Zq Bundle.tN "UNASSIGNED_STACK" Bundle.steD A s s.heap) (hN : vx_Zq Bundle.tN "SUPPRESSED_SENTINEL" Bundle.listD A s s.heap) (hS : va_S A s.heap H locs) (hsize : ls.size = c.maxLocals)
    (d0 : decode cc pc = .ok (.new ik, 3)) (d3 : decode cc (pc + 3) = .ok (.dup, 1)) (d4 : decode cc (pc + 4) = .ok (.ldc_w is, 3)) (d7 : decode cc (pc + 7) = .ok (.invokespecial ic, 3)) (d10 : decode cc (pc + 10) = .ok (.athrow, 1))
    (hout : ∀ x ∈ c.exceptionTable.toList, covers x (pc + 10) = false)
    (hRframes : names.length + 3 < R.frames) (hRlocals : (rest.map fun v => v.category).sum + (13 * (names.length + 1) + 43) ≤ R.locals) (hRcells : cells + 1 ≤ R.cells) (hRslots : slots + 6 ≤ R.slots) (hlocks : meth.locks = false)
    (hx : ∀ t : State, s.vm.Alike t.vm → H.size ≤ t.heap.size → (∀ q : Nat, q < H.size → t.heap[q]? = H[q]?) → XC cls s t)
    (hf : ∀ z ∈ locs, free z.base) (hc : cells + 1 ≤ mc) (hs : slots + 6 ≤ ms) :
    W p l e R s m args below meth c H locs cells slots (vx_MQ below Qc XC args s mc ms free) (F0 m pc ls rest) := by
  intro T hT X
  have htr : e.platform.stackTraces = false := (show e.platform.stackTraces = l.stackTraces by rw [X.admits.platform]).trans hl
  have Y := vx_rebase X (R' := { frames := R.frames, locals := R.locals, cells := 1, slots := 6 }) (Nat.le_refl _) (Nat.le_refl _) hRcells hRslots
  obtain ⟨s', hA⟩ : ∃ z, z = (T.setVm s.vm).setFrames (.invoking m args :: below) := ⟨_, rfl⟩
  rw [← hA] at Y
  have hvm : s'.vm = s.vm := by rw [hA]; rfl
  have hhp : s'.heap = H := by rw [hA]; exact hT
  have hW0 : s.WarmedH s'.vm := by rw [hvm]; exact State.WarmedH.refl s
  have hat' : ∀ w ∈ vx_atS own ic cls names, w.before args s' = true := fun w hw => vx_ot_at hW0 hvm.symm (hgood w (List.mem_cons_of_mem _ (List.mem_cons_of_mem _ hw))) (hat w hw)
  have hk' : (Cond.classLink own ik cls).before args s' = true := vx_ot_at hW0 hvm.symm (hgood _ List.mem_cons_self) hk
  have hini' : (Cond.initialized cls).before args s' = true := vx_ot_at hW0 hvm.symm (hgood _ (List.mem_cons_of_mem _ List.mem_cons_self)) hini
  have hU' : vx_Zq Bundle.tN "UNASSIGNED_STACK" Bundle.steD A s' s'.heap := by rw [hhp]; exact vx_Zq.moved hW0.alike (hU.kept hS.2.1)
  have hN' : vx_Zq Bundle.tN "SUPPRESSED_SENTINEL" Bundle.listD A s' s'.heap := by rw [hhp]; exact vx_Zq.moved hW0.alike (hN.kept hS.2.1)
  have h : ∀ w ∈ Bundle.ownAtoms own ic cls names, w.before args s' = true := vx_own hat' (vx_isRefq hU'.1) (vx_isRefq hN'.1) hU'.2.word hN'.2.word
  have hown' : s'.vm.findClass own = some m.cls := by rw [hvm]; exact hown
  have hins : (Cond.instantiable cls 6).before args s' = true := h _ (by simp [Bundle.ownAtoms])
  obtain ⟨vm₁, cX, kX, hfX, hkX, -, -, X₁, st1⟩ := Y.newCold hexec (own := own) (C := cls) (index := ik) (n := 6) hown' hk' hins hini'
    (g := F0 m pc ls rest) rfl (by rw [hb]; exact d0) (Nat.le_refl _) (Nat.le_refl _)
  generalize hT1 : (T.setVm vm₁).pushCell { cls := cX, slots := kX.instanceTypes.map defaultValue, vm := .none } = T1 at X₁ st1
  have hcat : (Value.ref T.heap.size).category = 1 := rfl
  have hcellA : T1.heap[T.heap.size]? = some (freshCell cX kX) := by rw [← hT1]; exact State.heap_pushCell_size _ _
  have d3' : decode c.code (pc + 3) = .ok (.dup, 1) := by rw [hb]; exact d3
  have d4' : decode c.code (pc + 4) = .ok (.ldc_w is, 3) := by rw [hb]; exact d4
  have hstr' : vk_R own is text sa s' := vk_R.warm hW0 hstr
  obtain ⟨U, hsteps, hrun, hend, hW, hsame, ce, hce, hO⟩ := X₁.ctorThrowS hexec htr (own := own) (cls := cls) (names := names) (ic := ic) hown' hcls hnames h (fun x hx => nomatch hx) hfX hkX hcellA (by rw [hhp, hT]; exact Nat.le_refl _) (msg := .ref sa) rfl
    (g := { method := m, pc := pc + 7, locals := ls, stack := .ref sa :: .ref T.heap.size :: .ref T.heap.size :: rest, locked := none }) rfl hsize rfl rfl (rest := rest) rfl
    (by rw [hb]; exact d7) (by rw [hb]; exact d10) hout hRframes (by simp only [List.map_cons, List.sum_cons, hcat]; omega) hlocks
  obtain ⟨f1, f2⟩ := vx_frame hsame
  rw [hhp] at f1 f2
  have hWs : s.WarmedH U.vm := State.WarmedH.trans hW0 hW
  have hcl : s.vm.findClass cls = some ce.cls := by
    have h9 := hO.cls
    rw [hvm] at h9
    exact h9
  have hall : s.sameButNew ({ U with vm := s.vm } : State) locs mc ms := by
    subst hA
    obtain ⟨e1, e2⟩ := hsame
    rw [State.setFrames_setFrames] at e1
    have h2 : (T.setVm s.vm).sameButNew ({ U with vm := s.vm } : State) [] (0 + 1) (0 + 6) := ⟨e1, e2⟩
    have h3 := X.same.trans h2
    rw [List.append_nil] at h3
    exact h3.mono hc hs
  refine ⟨U, ?_, .threw T.heap.size, hrun, hend, Or.inr ⟨T.heap.size, rfl, cls, ce, locs, hx U hWs.alike f1 (fun q hq => f2 q hq (fun z hz => nomatch hz)), hce, hO.vm, hcl, hWs, hall, hf⟩⟩
  refine st1 _ ?_
  show Steps p.tables e below (T1.setTop { method := m, pc := pc + 3, locals := ls, stack := .ref T.heap.size :: rest, locked := none }) _
  jvm_step X₁.here [X₁.here.top, hexec, d3', Value.category]
  exact X₁.ldcStringW hexec (own := own) (text := text) (index := is) (a := sa) hown' hstr'.1 hstr'.2
    (g := { method := m, pc := pc + 4, locals := ls, stack := .ref T.heap.size :: .ref T.heap.size :: rest, locked := none }) rfl d4' _ hsteps
end Ends
section Bodies
variable {l : Launch}
theorem vx_ofW {y : MethodName} {ws ws' : List Cond} {rm : Room} {Pc : Array Value → State → Prop} {Qc : Array Value → State → Outcome → State → Prop} {XC : String → State → State → Prop} {mc ms : Nat} {free : Addr → Prop} {cc : ByteArray} {maxL : Nat} {ret : Option FieldType}
    (hy : plainName y.cls = true) (hw : ws = Cond.code y cc maxL ret :: ws')
    (body : ∀ p e s m args below meth c s₁, BodyLoose p l y (headSpec ws rm) cc maxL ret e s m args below meth c s₁ → c.maxLocals = maxL → (∀ x ∈ c.exceptionTable.toList, False) → Pc args s →
      W p l e (headSpec ws rm).room s m args below meth c s.heap [] 0 0 (vx_MQ below Qc XC args s mc ms free) (entryFrame m args maxL)) : vx_Met l y ws rm Pc Qc XC mc ms free := by
  refine MetFree.of_bodyS (code := cc) (maxLocals := maxL) (ret := ret) hy ?_ ?_
  · intro args s m h hn
    obtain ⟨meth, c, h1, h2, h3, h4, h5, h6, -, -⟩ := Cond.code_spec hn (atoms_spec (ws := ws) h _ (by rw [hw]; exact List.mem_cons_self))
    exact ⟨meth, c, h1, h2, h3, h4, h5, h6⟩
  · intro p e s m args below meth c s₁ B hml hP _
    have hh0 : s₁.heap = s.heap := by rw [B.state]; rfl
    have ht : ∀ x ∈ c.exceptionTable.toList, False := by
      obtain ⟨meth9, c9, h1, h2, -, -, -, -, h7, -⟩ := Cond.code_spec B.named (atoms_spec (ws := ws) B.pre _ (by rw [hw]; exact List.mem_cons_self))
      cases Option.some.inj (h1.symm.trans B.method)
      cases Option.some.inj (h2.symm.trans (Stand.of_body B).code)
      intro x hx
      rw [Array.isEmpty_iff.mp h7] at hx
      cases hx
    obtain ⟨t, a1, o, b1, b2, b3⟩ := body p e s m args below meth c s₁ B hml ht hP s₁ hh0 (Stand.of_body B)
    exact ⟨t, o, a1, b1, b2, b3⟩
/-- the table of a body with handlers -/
theorem vx_table {p : Program} {x y : MethodName} {S : Spec} {cc bytes : ByteArray} {maxL maxL' : Nat} {ret ret' : Option FieldType} {e : Env} {s s₁ : State} {m : MethodId} {args : Array Value} {below : List Frame} {meth : Method} {c : Code} {hh : List (Nat × Nat × Nat × Nat)}
    (B : BodyLoose p l y S cc maxL ret e s m args below meth c s₁) (h : (Cond.codeWith y bytes maxL' ret' hh).before args s = true) : c.exceptionTable.toList = tableOf hh := by
  obtain ⟨m9, meth9, c9, hn9, h1, h2, -, -, h6, -⟩ := Cond.codeWith_spec h
  cases Option.some.inj (hn9.symm.trans B.named)
  cases Option.some.inj (h1.symm.trans B.method)
  cases Option.some.inj (h2.symm.trans (Stand.of_body B).code)
  rw [← h6, table_eq]
end Bodies
end VXA
/-! ===== END ===== -/
/-! ===== BEGIN a static call of a method with an exception table ===== -/
section VXS
variable {p : Program} {l : Launch} {e : Env} {R : Room} {s : State} {m : MethodId} {args : Array Value} {below : List Frame} {meth : Method} {c : Code} {T : State} {H : Heap} {locs : List Loc} {cells slots : Nat}
abbrev vx_CSW (R : Room) (s : State) (args : Array Value) (own : String) (index : Nat) (y : MethodName) (bytes : ByteArray) (maxL : Nat) (ret : Option FieldType) (hh : List (Nat × Nat × Nat × Nat)) (ws : List Cond) (rm : Room) (mc ms n : Nat) : Prop :=
  (rm.cells = mc ∧ rm.slots = ms ∧ rm.frames + 1 ≤ R.frames ∧ 8 + (maxL + 11) + rm.locals ≤ R.locals ∧ (∀ w ∈ ws, ∀ (a' : Array Value) (U : State), s.WarmedH U.vm → w.before a' U = true) ∧ Cond.codeWith y bytes maxL ret hh ∈ ws) ∧
  (Cond.codeWith y bytes maxL ret hh).before args s = true ∧ (Cond.initialized y.cls).before args s = true ∧ (y.cls ≠ "java/lang/invoke/MethodHandle" ∧ y.cls ≠ "java/lang/invoke/VarHandle") ∧
  (∀ sig, parseMethodDescriptor y.desc = some sig → n = sig.parameters.length) ∧ (Cond.methodLink own index y).before args s = true ∧ (Cond.static y).before args s = true
theorem vx_cwSW {own : String} {index maxL mc ms : Nat} {y : MethodName} {bytes : ByteArray} {ret : Option FieldType} {hh : List (Nat × Nat × Nat × Nat)} {Ts ws ws' : List Cond} {rm : Room} (n : Nat) (ht : ∀ w ∈ Ts, w.before args s = true) (hT : GoodIn Ts (va_wsS own index y ws)) (hw : ws = Cond.codeWith y bytes maxL ret hh :: ws') (hrc : rm.cells = mc) (hrs : rm.slots = ms)
    (hd : y.cls ≠ "java/lang/invoke/MethodHandle" ∧ y.cls ≠ "java/lang/invoke/VarHandle" ∧ (parseMethodDescriptor y.desc).map (fun d => d.parameters.length) = some n) (hR : rm.frames + 1 ≤ R.frames ∧ 8 + (maxL + 11) + rm.locals ≤ R.locals) :
    vx_CSW R s args own index y bytes maxL ret hh ws rm mc ms n := by
  have ok : ∀ w ∈ va_wsS own index y ws, w.before args s = true := fun w h => ht w (hT w h).1
  have hG : GoodIn Ts ws := fun w h => hT w (by unfold va_wsS; exact List.mem_append_right _ h)
  have hc : Cond.codeWith y bytes maxL ret hh ∈ ws := by rw [hw]; exact List.mem_cons_self
  refine ⟨⟨hrc, hrs, hR.1, hR.2, pay_in ht hG, hc⟩, ht _ (hG _ hc).1, ok _ (by simp [va_wsS]), ⟨hd.1, hd.2.1⟩, fun sig h => ?_, ok _ (by simp [va_wsS]), ok _ (by simp [va_wsS])⟩
  have h2 := hd.2.2
  rw [h] at h2
  exact (Option.some.inj h2).symm
theorem vx_callSW (X : Stand p l e R s m args below meth c T locs cells slots) (hexec : p.tables.exec = Jvm.exec) {own : String} {index : Nat} {y : MethodName} {bytes : ByteArray} {maxL : Nat} {ret : Option FieldType} {hh : List (Nat × Nat × Nat × Nat)}
    (hown : s.vm.findClass own = some m.cls) (hlink : (Cond.methodLink own index y).before args s = true) (hstat : (Cond.static y).before args s = true) (hinit : (Cond.initialized y.cls).before args s = true)
    (hcode : (Cond.codeWith y bytes maxL ret hh).before args s = true) (hy : y.cls ≠ "java/lang/invoke/MethodHandle" ∧ y.cls ≠ "java/lang/invoke/VarHandle")
    {W9 : Nat} {Pre : Pt → Array Value → Prop} {Post : Pt → Array Value → Option Value → Pt → Prop} (hK : Back l R p e below s args y 3 W9 Pre Post)
    {g : JFrame} (hg : g.method = m) (hsize : g.locals.size = c.maxLocals) {argsL rest : List Value} (hlen : ∀ sig, parseMethodDescriptor y.desc = some sig → argsL.length = sig.parameters.length)
    (hstack : g.stack = argsL.reverse ++ rest) (hW : 2 * g.monitorRoom + (rest.map fun v => v.category).sum ≤ W9) (hdg : decode c.code g.pc = .ok (.invokestatic index, 3))
    (hpre : ∀ vm₁, s.WarmedH vm₁ → Pre ⟨T.setVm vm₁, locs, cells, slots⟩ argsL.toArray) :
    ∃ (v : Option Value) (vm₁ : Vm) (B : Pt), s.WarmedH vm₁ ∧ Stand p l e R s m args below meth c B.U B.locs B.cells B.slots ∧ Post ⟨T.setVm vm₁, locs, cells, slots⟩ argsL.toArray v B ∧
      ∀ target, Steps p.tables e below (B.U.setTop { g with pc := g.pc + 3, stack := v.toList ++ rest }) target → Steps p.tables e below (T.setTop g) target := by
  obtain ⟨mk, methM, cM, hnamed, hmethM, -, -, -, -, -, -, hsigM⟩ := Cond.codeWith_spec hcode
  have hstatic : methM.isStatic = true := Cond.static_spec hnamed hmethM hstat
  obtain ⟨kP, hkP, -⟩ := className_of_methodNamed hnamed
  have hinitP : kP.init = .initialized := Cond.initialized_spec (findClass_of_methodNamed hnamed) hkP hinit
  obtain ⟨vm₁, X₁, hstep₁⟩ := X.invokestatic hexec hown hlink hnamed hmethM hstatic hkP hinitP hy (g := g) hg (argsL := argsL) (rest := rest) (hlen _ hsigM) hstack hdg
  obtain ⟨v, B, X', hpost, hsteps⟩ := hK m meth c ⟨T.setVm vm₁, locs, cells, slots⟩ { g with stack := rest } (.invokestatic index) mk argsL.toArray X₁ hg hsize hdg hW (X₁.named hnamed) (hpre vm₁ X₁.warmed)
  exact ⟨v, vm₁, B, X₁.warmed, X', hpost, fun target h => hstep₁ _ fun acts => by rw [doInvoke_state]; exact hsteps.trans h⟩
theorem vx_runSW {y : MethodName} {bytes cc : ByteArray} {maxL nL mc ms n index : Nat} {ret : Option FieldType} {hh : List (Nat × Nat × Nat × Nat)} {ws : List Cond} {rm : Room} {Pc : Array Value → State → Prop} {Qc : Array Value → State → Outcome → State → Prop} {free : Addr → Prop} {Ts : List Cond} {own : String} {As rest : List Value} {g : JFrame}
    (S : CallFix p m c cc nL s args Ts own) (hM : Met l y ws rm Pc Qc mc ms free) (cw : vx_CSW R s args own index y bytes maxL ret hh ws rm mc ms n) (hp : PreS s H Pc As)
    (hg : g.method = m) (hn : As.length = n) (hsize : g.locals.size = nL) (hstack : g.stack = As.reverse ++ rest) (hW : 2 * g.monitorRoom + (rest.map fun v => v.category).sum ≤ 8) (hdg : decode cc g.pc = .ok (.invokestatic index, 3)) (hf : cells + mc ≤ R.cells ∧ slots + ms ≤ R.slots) :
    va_Run p l e R s m args below meth c H locs cells slots mc ms g rest (Qc As.toArray) (free) := by
  obtain ⟨⟨hrc, hrs, hfr, hlo, hws, hcw⟩, hcode, hini, hy, hlen, hl, hstt⟩ := cw
  have hK : Back l R p e below s args y 3 8 (PreOf R mc ms Pc) (PostOf Qc mc ms free) := va_backW (hh := hh) (bytes := bytes) (maxL := maxL) (ret := ret) hM hp.1 hrc hrs hfr hlo hws hcw (fun a' U hW => word_at hW (Or.inl (by first | rfl | simp [Cond.onTables, Cond.keeps, Cond.steady])) hini)
  obtain ⟨hx, hb, hml, ho, -⟩ := S
  intro T hT X
  obtain ⟨v, vm₁, ⟨U', l2, c2, s2⟩, hW₁, X', ⟨g', mk, t, L, e1, e2, hq, h1, hL, h2, h3⟩, st⟩ := vx_callSW X hx (hh := hh) (bytes := bytes) (maxL := maxL) (ret := ret) ho hl hstt hini hcode hy hK hg (hsize.trans hml.symm) (argsL := As) (rest := rest) (fun sig h => hn.trans (hlen sig h)) hstack hW (by rw [hb]; exact hdg)
    (fun vm₁ hW₁ => ⟨hf.1, hf.2, hp.2 (T.setVm vm₁) hT hW₁⟩)
  dsimp only [Pt.U, Pt.locs, Pt.cells, Pt.slots] at X' e1 e2 h1 h2 h3 st
  subst h1; subst h2; subst h3
  exact ⟨v, (T.setVm vm₁).calling g' mk As.toArray, t, U', L, hT, X', hL, e1, e2, hq, st⟩
/-- not caught here, past rows that name other classes: it goes on to the caller -/
theorem vx_outP {p : Program} {l : Launch} {e : Env} {R : Room} {s : State} {m : MethodId} {args : Array Value} {below : List Frame} {meth : Method} {c : Code} {H : Heap} {locs : List Loc} {cells slots : Nat} {free : Addr → Prop} {ls : Array Slot} {rest : List Value} {Qc : Array Value → State → Outcome → State → Prop} {XC : String → State → State → Prop}
    {pc : Nat} {own E : String} {ce : Cell} {q : Addr} {mc ms : Nat} (hown : s.vm.findClass own = some m.cls) (hlocks : meth.locks = false)
    (hpass : ∀ z ∈ c.exceptionTable.toList, covers z pc = false ∨ (z.catchType ≠ 0 ∧ ∃ nm : String, (Cond.classLink own z.catchType nm).before args s = true ∧ va_Nc E nm s)) (hcell : H[q]? = some ce) (hv : ce.vm = .none) (hcl : s.vm.findClass E = some ce.cls)
    (hx : ∀ t : State, t.heap = H → s.vm.Alike t.vm → XC E s t) (hf : ∀ z ∈ locs, free z.base) (hc : cells ≤ mc) (hs : slots ≤ ms) :
    vx_W p l e R s m args below meth c H locs cells slots (vx_MQ below Qc XC args s mc ms free) (F0 m pc ls rest) q := by
  intro T hT X
  have hpl : e.platform.magicAccessors = ({} : Platform).magicAccessors := by rw [X.admits.platform]
  obtain ⟨vm', hW', X', st⟩ := X.outThrough hlocks q (g := F0 m pc ls rest) rfl rfl rfl (cell := ce) (by rw [hT]; exact hcell) (by rw [hv]; rfl)
    (by obtain ⟨k9, h9, -⟩ := Vm.findClass_spec hcl; exact ⟨k9, h9⟩) (fun z hz => by
      rcases hpass z hz with h | ⟨hz0, nm, hl1, hn1⟩
      · exact Or.inl h
      · obtain ⟨c6, hc6, hcl6⟩ := Cond.classLink_spec hown hl1 e.platform hpl
        obtain ⟨a8, b8, h1, h2, h3⟩ := hn1
        cases Option.some.inj (h1.symm.trans hcl)
        cases Option.some.inj (h2.symm.trans hc6)
        exact Or.inr ⟨hz0, _, hcl6, h3⟩)
  obtain ⟨g₀, hfr⟩ := X'.frames_eq
  have hcell9 : ((T.setVm vm').setFrames (.throwing q :: below)).heap[q]? = some ce := by
    show T.heap[q]? = some ce
    rw [hT]; exact hcell
  have hend : Ended ((T.setVm vm').setFrames (.throwing q :: below)) below (.threw q) := State.frames_setFrames _ (State.cur_lt_of_frames hfr)
  refine ⟨(T.setVm vm').setFrames (.throwing q :: below), ?_, .threw q, X'.here.running, hend, Or.inr ⟨q, rfl, E, ce, locs, hx _ hT (X'.ends _).1.alike, hcell9, hv, hcl, (X'.ends _).1, (X'.ends _).2.mono hc hs, hf⟩⟩
  rw [X.pushThrowing_eq]
  exact st
/-- a thing of a world lies in the heap -/
theorem vx_lt {D : va_G} {cl : List vw_C} {ws : va_W} {H1 : Heap} (h : va_P D cl ws H1) {k : Nat} {q : Nat × va_E} (hk : ws[k]? = some q) : q.1 < H1.size := (h k q hk).lt
end VXS
/-! ===== END ===== -/
/-! ===== BEGIN methods with a table of their own: called by a name, returning or throwing ===== -/
section VXH
/-! vx_backW, vx_callVX, vx_callSX, vx_callVW, vx_runVW, vx_runVX, vx_runSX, vx_ofWH follow the same proofs as their sisters above (Free/Laws.lean, Shelf42/LK1.lean); vx_outP calls Shelf42/NT130.lean (outThrough). -/
section
variable {l : Launch} {R : Room} {p : Program} {e : Env} {below : List Frame} {s : State} {sargs : Array Value} {y : MethodName} {len W9 : Nat}
theorem vx_backW {ws : List Cond} {rm : Room} {Pc : Array Value → State → Prop} {Qc : Array Value → State → Outcome → State → Prop} {XC : String → State → State → Prop} {mc ms : Nat} {free : Addr → Prop} {bytes : ByteArray} {maxL : Nat} {ret : Option FieldType} {hh : List (Nat × Nat × Nat × Nat)}
    (hM : vx_Met l y ws rm Pc Qc XC mc ms free) (hblind : FrameBlind Pc) (hrc : rm.cells = mc) (hrs : rm.slots = ms)
    (hframes : rm.frames + 1 ≤ R.frames) (hlocals : W9 + (maxL + 11) + rm.locals ≤ R.locals)
    (hws : ∀ w ∈ ws, ∀ a' U, s.WarmedH U.vm → w.before a' U = true) (hcode : Cond.codeWith y bytes maxL ret hh ∈ ws) (hinit : ∀ a' U, s.WarmedH U.vm → (Cond.initialized y.cls).before a' U = true) :
    vx_Back l R p e below s sargs y len W9 (PreOf R mc ms Pc) (PostOf Qc mc ms free) (vx_Post XC mc ms free) := by
  intro m meth c A g ig mk a X hg hsize hdg hW hn hp
  have h1 : (headSpec ws rm).pre.before a A.U = true := atoms_intro fun w hw => hws w hw _ _ X.warmed
  have h2 : (Cond.codeWith y bytes maxL ret hh).before a A.U = true := hws _ hcode _ _ X.warmed
  have h3 : (Cond.initialized y.cls).before a A.U = true := hinit _ _ X.warmed
  have h4 : A.cells + (headSpec ws rm).room.cells ≤ R.cells := by rw [show (headSpec ws rm).room.cells = mc from hrc]; exact hp.1
  have h5 : A.slots + (headSpec ws rm).room.slots ≤ R.slots := by rw [show (headSpec ws rm).room.slots = ms from hrs]; exact hp.2.1
  have hPc : Pc a (A.U.calling g mk a) := hblind _ _ _ _ hp.2.2
  obtain ⟨U, Ls, c0, s0⟩ := A
  dsimp only [Pt.U, Pt.locs, Pt.cells, Pt.slots] at h1 h2 h3 h4 h5 X hn hPc ⊢
  obtain ⟨m9, methY, cY, hn9, hmY, hcY, -, hlY, -⟩ := Cond.codeWith_spec h2
  cases Option.some.inj (hn9.symm.trans hn)
  obtain ⟨kY, hkY, -⟩ := className_of_methodNamed hn
  have hinitY : kY.init = .initialized := Cond.initialized_spec (findClass_of_methodNamed hn) hkY h3
  have h : At U g.method c below := by rw [hg]; exact X.here
  have hlocals9 : W9 + (maxL + 11) + (headSpec ws rm).room.locals ≤ R.locals := hlocals
  have happ : (headSpec ws rm).appliesLoose y e.platform (U.calling g mk a) = true :=
    Spec.appliesLoose_calling (g := g) h hdg hn hkY hinitY
      (X.room_calling (g := g) (R' := (headSpec ws rm).room) hsize hmY hcY hframes (by rw [hlY]; omega) h4 h5) h1
  obtain ⟨mid, hmid⟩ := h.above
  have hfr : (U.setTop g).frames = (.java g :: mid) ++ below := by rw [State.frames_setTop' g h.top, hmid]; rfl
  obtain ⟨o, s₂, hsteps, -, hend, hq⟩ := Steps.callFree hM p X.admits X.cas X.clock (acts := []) hfr happ hPc trivial
  have hq' : vx_Q Qc XC mc ms free a (U.calling g mk a) o s₂ := hq
  rw [State.frames_setTop' g h.top] at hend
  obtain ⟨g₀, hg0⟩ := Option.isSome_iff_exists.mp h.top
  obtain ⟨r, hr⟩ := State.topJava?_eq_some.mp hg0
  have hr' : (({ U with heap := s₂.heap, slotsUsed := s₂.slotsUsed } : State).setVm s₂.vm).frames = .java g₀ :: r := hr
  rcases hq' with ⟨hqc, L, hfe, hL⟩ | ⟨q, rfl, E, ce, L, hx, hce, hcv, hcl, hW₂, hsm, hL⟩
  · obtain ⟨⟨v, rfl⟩, hW₂, e2, q2, q3, q4, q5, q6⟩ := id hfe
    have e3 : s₂ = ({ (U.calling g mk a).setFrames s₂.frames with heap := s₂.heap, slotsUsed := s₂.slotsUsed } : State).setVm s₂.vm := by
      have : s₂ = ({ s₂ with vm := (U.calling g mk a).vm } : State).setVm s₂.vm := rfl
      rw [e2] at this
      exact this
    obtain ⟨c₂, i₂, len₂, hc₂, hd₂, hf₂⟩ := hend
    have hW' : U.WarmedH s₂.vm := hW₂
    have hcc : c₂ = c := by
      have h1 : s₂.code? g.method = U.code? g.method := by
        rw [State.code?_eq, State.code?_eq, hW'.alike.method?]
      exact Option.some.inj (hc₂.symm.trans (h1.trans h.code))
    subst hcc
    have hlen : len₂ = len := by rw [hdg] at hd₂; cases hd₂; rfl
    subst hlen
    have hs₂ : s₂ = (({ U with heap := s₂.heap, slotsUsed := s₂.slotsUsed } : State).setVm s₂.vm).setTop { g with pc := g.pc + len₂, stack := v.toList ++ g.stack } := by
      refine e3.trans ?_
      rw [hf₂, State.calling_eq h.top, State.setFrames_setFrames, State.setTop_of_frames _ hr', hr]
      rfl
    have hsame : U.sameButNew ({ U with heap := s₂.heap, slotsUsed := s₂.slotsUsed } : State) L mc ms := by
      refine ⟨?_, q2, q3, q4, q5, q6⟩
      obtain ⟨t, ht, -⟩ := State.frames_cons hr
      show ({ U with heap := s₂.heap, slotsUsed := s₂.slotsUsed } : State) = { U.setFrames U.frames with heap := s₂.heap, slotsUsed := s₂.slotsUsed }
      rw [State.setFrames_self ht]
    subst hg
    refine Or.inl ⟨v, ⟨(({ U with heap := s₂.heap, slotsUsed := s₂.slotsUsed } : State).setVm s₂.vm), Ls ++ L, c0 + mc, s0 + ms⟩,
      ⟨X.admits, X.cas, X.clock, X.frames, X.room, X.hears, X.method, X.code, (X.here.setHeapUsed s₂.heap s₂.slotsUsed).setVm hW'.alike, X.tail, State.WarmedH.trans X.warmed hW', X.limits, X.bytes, X.same.trans (hsame.setVm s.vm)⟩,
      ⟨g, mk, s₂, L, rfl, rfl, hqc, rfl, hL, rfl, rfl⟩, ?_⟩
    show Steps p.tables e below _ ((({ U with heap := s₂.heap, slotsUsed := s₂.slotsUsed } : State).setVm s₂.vm).setTop { g with pc := g.pc + len₂, stack := v.toList ++ g.stack })
    rw [← hs₂]
    exact hsteps
  · obtain ⟨e2, q2, q3, q4, q5, q6⟩ := id hsm
    have e3 : s₂ = ({ (U.calling g mk a).setFrames s₂.frames with heap := s₂.heap, slotsUsed := s₂.slotsUsed } : State).setVm s₂.vm := by
      have : s₂ = ({ s₂ with vm := (U.calling g mk a).vm } : State).setVm s₂.vm := rfl
      rw [e2] at this
      exact this
    have hf₂ : s₂.frames = .throwing q :: .java g :: U.frames.tail := hend
    have hW' : U.WarmedH s₂.vm := hW₂
    have hs₂ : s₂ = ((({ U with heap := s₂.heap, slotsUsed := s₂.slotsUsed } : State).setVm s₂.vm).setTop g).pushFrame (.throwing q) := by
      refine e3.trans ?_
      rw [hf₂, State.calling_eq h.top, State.setFrames_setFrames, State.pushFrame, State.frames_setTop _ hr', State.setTop_of_frames _ hr', State.setFrames_setFrames, hr]
      rfl
    have hsame : U.sameButNew ({ U with heap := s₂.heap, slotsUsed := s₂.slotsUsed } : State) L mc ms := by
      refine ⟨?_, q2, q3, q4, q5, q6⟩
      obtain ⟨t, ht, -⟩ := State.frames_cons hr
      show ({ U with heap := s₂.heap, slotsUsed := s₂.slotsUsed } : State) = { U.setFrames U.frames with heap := s₂.heap, slotsUsed := s₂.slotsUsed }
      rw [State.setFrames_self ht]
    subst hg
    refine Or.inr ⟨q, ⟨(({ U with heap := s₂.heap, slotsUsed := s₂.slotsUsed } : State).setVm s₂.vm), Ls ++ L, c0 + mc, s0 + ms⟩,
      ⟨X.admits, X.cas, X.clock, X.frames, X.room, X.hears, X.method, X.code, (X.here.setHeapUsed s₂.heap s₂.slotsUsed).setVm hW'.alike, X.tail, State.WarmedH.trans X.warmed hW', X.limits, X.bytes, X.same.trans (hsame.setVm s.vm)⟩,
      ⟨g, mk, s₂, L, E, ce, rfl, rfl, hx, hce, hcv, hcl, rfl, hL, rfl, rfl⟩, ?_⟩
    show Steps p.tables e below _ (((({ U with heap := s₂.heap, slotsUsed := s₂.slotsUsed } : State).setVm s₂.vm).setTop g).pushFrame (.throwing q))
    rw [← hs₂]
    exact hsteps
end
variable {p : Program} {l : Launch} {e : Env} {R : Room} {s : State} {m : MethodId} {args : Array Value} {below : List Frame} {meth : Method} {c : Code} {T : State} {H : Heap} {locs : List Loc} {cells slots : Nat}
theorem vx_callVX (X : Stand p l e R s m args below meth c T locs cells slots) (hexec : p.tables.exec = Jvm.exec) {own C : String} {index : Nat} {y : MethodName} {bytes : ByteArray} {maxL : Nat} {ret : Option FieldType} {hh : List (Nat × Nat × Nat × Nat)}
    (hown : s.vm.findClass own = some m.cls) (hlink : (Cond.methodLink own index y).before args s = true) (hinst : (Cond.instanceMethod y).before args s = true) (hsel : (Cond.selects C y y).before args s = true)
    (hcode : (Cond.codeWith y bytes maxL ret hh).before args s = true) (hy : y.cls ≠ "java/lang/invoke/MethodHandle" ∧ y.cls ≠ "java/lang/invoke/VarHandle")
    {W9 : Nat} {Pre : Pt → Array Value → Prop} {Post : Pt → Array Value → Option Value → Pt → Prop} {PostX : Pt → Array Value → Addr → Pt → Prop} (hK : vx_Back l R p e below s args y 3 W9 Pre Post PostX)
    {b : Addr} {cellB : Cell} (hcell : T.heap[b]? = some cellB) (hobj : cellB.vm.isStatics = false) (hcls : s.vm.findClass C = some cellB.cls)
    {g : JFrame} (hg : g.method = m) (hsize : g.locals.size = c.maxLocals) {argsL rest : List Value} (hlen : ∀ sig, parseMethodDescriptor y.desc = some sig → argsL.length = sig.parameters.length)
    (hstack : g.stack = argsL.reverse ++ .ref b :: rest) (hW : 2 * g.monitorRoom + (rest.map fun v => v.category).sum ≤ W9) (hdg : decode c.code g.pc = .ok (.invokevirtual index, 3))
    (hpre : ∀ vm₁, s.WarmedH vm₁ → Pre ⟨T.setVm vm₁, locs, cells, slots⟩ (Value.ref b :: argsL).toArray) :
    (∃ (v : Option Value) (vm₁ : Vm) (B : Pt), s.WarmedH vm₁ ∧ Stand p l e R s m args below meth c B.U B.locs B.cells B.slots ∧ Post ⟨T.setVm vm₁, locs, cells, slots⟩ (Value.ref b :: argsL).toArray v B ∧
      ∀ target, Steps p.tables e below (B.U.setTop { g with pc := g.pc + 3, stack := v.toList ++ rest }) target → Steps p.tables e below (T.setTop g) target) ∨
    (∃ (q : Addr) (vm₁ : Vm) (B : Pt), s.WarmedH vm₁ ∧ Stand p l e R s m args below meth c B.U B.locs B.cells B.slots ∧ PostX ⟨T.setVm vm₁, locs, cells, slots⟩ (Value.ref b :: argsL).toArray q B ∧
      Steps p.tables e below (T.setTop g) ((B.U.setTop { g with stack := rest }).pushFrame (.throwing q))) := by
  obtain ⟨mk, methM, hnamed, hmethM, hstM, habM⟩ := Cond.instanceMethod_spec hinst
  obtain ⟨m8, methM', cM, hn8, hmethM', -, -, -, -, -, -, hsigM⟩ := Cond.codeWith_spec hcode
  cases Option.some.inj (hn8.symm.trans hnamed)
  cases hmethM.symm.trans hmethM'
  obtain ⟨c2, r2, m2, q1, q2, q3, q4, kP, hkP, hkPi⟩ := Cond.selects_spec hsel
  cases hcls.symm.trans q1
  cases (State.methodFound?_of_named hnamed hy).symm.trans q2
  cases hnamed.symm.trans q3
  have hselP : selectMethod e.platform s.vm cellB.cls mk = .method mk := by rw [Launch.admits_selectMethod X.admits]; exact q4
  obtain ⟨vm₁, X₁, hstep₁⟩ := X.invokevirtual hexec hown hlink hnamed hmethM hstM hkP hkPi hy (a := b) (cell := cellB) hcell
    (fun z h => by rw [h] at hobj; cases hobj) hselP hmethM habM hkP hkPi (g := g) hg (argsL := argsL) (rest := rest) (hlen _ hsigM) hstack hdg
  rcases hK m meth c ⟨T.setVm vm₁, locs, cells, slots⟩ { g with stack := rest } (.invokevirtual index) mk (Value.ref b :: argsL).toArray X₁ hg hsize hdg hW (X₁.named hnamed) (hpre vm₁ X₁.warmed) with ⟨v, B, X', hpost, hsteps⟩ | ⟨q, B, X', hpost, hsteps⟩
  · exact Or.inl ⟨v, vm₁, B, X₁.warmed, X', hpost, fun target h => hstep₁ _ fun acts => by rw [doInvoke_state]; exact hsteps.trans h⟩
  · exact Or.inr ⟨q, vm₁, B, X₁.warmed, X', hpost, hstep₁ _ fun acts => by rw [doInvoke_state]; exact hsteps⟩
theorem vx_callSX (X : Stand p l e R s m args below meth c T locs cells slots) (hexec : p.tables.exec = Jvm.exec) {own : String} {index : Nat} {y : MethodName} {bytes : ByteArray} {maxL : Nat} {ret : Option FieldType} {hh : List (Nat × Nat × Nat × Nat)}
    (hown : s.vm.findClass own = some m.cls) (hlink : (Cond.methodLink own index y).before args s = true) (hstat : (Cond.static y).before args s = true) (hinit : (Cond.initialized y.cls).before args s = true)
    (hcode : (Cond.codeWith y bytes maxL ret hh).before args s = true) (hy : y.cls ≠ "java/lang/invoke/MethodHandle" ∧ y.cls ≠ "java/lang/invoke/VarHandle")
    {W9 : Nat} {Pre : Pt → Array Value → Prop} {Post : Pt → Array Value → Option Value → Pt → Prop} {PostX : Pt → Array Value → Addr → Pt → Prop} (hK : vx_Back l R p e below s args y 3 W9 Pre Post PostX)
    {g : JFrame} (hg : g.method = m) (hsize : g.locals.size = c.maxLocals) {argsL rest : List Value} (hlen : ∀ sig, parseMethodDescriptor y.desc = some sig → argsL.length = sig.parameters.length)
    (hstack : g.stack = argsL.reverse ++ rest) (hW : 2 * g.monitorRoom + (rest.map fun v => v.category).sum ≤ W9) (hdg : decode c.code g.pc = .ok (.invokestatic index, 3))
    (hpre : ∀ vm₁, s.WarmedH vm₁ → Pre ⟨T.setVm vm₁, locs, cells, slots⟩ argsL.toArray) :
    (∃ (v : Option Value) (vm₁ : Vm) (B : Pt), s.WarmedH vm₁ ∧ Stand p l e R s m args below meth c B.U B.locs B.cells B.slots ∧ Post ⟨T.setVm vm₁, locs, cells, slots⟩ argsL.toArray v B ∧
      ∀ target, Steps p.tables e below (B.U.setTop { g with pc := g.pc + 3, stack := v.toList ++ rest }) target → Steps p.tables e below (T.setTop g) target) ∨
    (∃ (q : Addr) (vm₁ : Vm) (B : Pt), s.WarmedH vm₁ ∧ Stand p l e R s m args below meth c B.U B.locs B.cells B.slots ∧ PostX ⟨T.setVm vm₁, locs, cells, slots⟩ argsL.toArray q B ∧
      Steps p.tables e below (T.setTop g) ((B.U.setTop { g with stack := rest }).pushFrame (.throwing q))) := by
  obtain ⟨mk, methM, cM, hnamed, hmethM, -, -, -, -, -, -, hsigM⟩ := Cond.codeWith_spec hcode
  have hstatic : methM.isStatic = true := Cond.static_spec hnamed hmethM hstat
  obtain ⟨kP, hkP, -⟩ := className_of_methodNamed hnamed
  have hinitP : kP.init = .initialized := Cond.initialized_spec (findClass_of_methodNamed hnamed) hkP hinit
  obtain ⟨vm₁, X₁, hstep₁⟩ := X.invokestatic hexec hown hlink hnamed hmethM hstatic hkP hinitP hy (g := g) hg (argsL := argsL) (rest := rest) (hlen _ hsigM) hstack hdg
  rcases hK m meth c ⟨T.setVm vm₁, locs, cells, slots⟩ { g with stack := rest } (.invokestatic index) mk argsL.toArray X₁ hg hsize hdg hW (X₁.named hnamed) (hpre vm₁ X₁.warmed) with ⟨v, B, X', hpost, hsteps⟩ | ⟨q, B, X', hpost, hsteps⟩
  · exact Or.inl ⟨v, vm₁, B, X₁.warmed, X', hpost, fun target h => hstep₁ _ fun acts => by rw [doInvoke_state]; exact hsteps.trans h⟩
  · exact Or.inr ⟨q, vm₁, B, X₁.warmed, X', hpost, hstep₁ _ fun acts => by rw [doInvoke_state]; exact hsteps⟩
theorem vx_callVW (X : Stand p l e R s m args below meth c T locs cells slots) (hexec : p.tables.exec = Jvm.exec) {own C : String} {index : Nat} {y : MethodName} {bytes : ByteArray} {maxL : Nat} {ret : Option FieldType} {hh : List (Nat × Nat × Nat × Nat)}
    (hown : s.vm.findClass own = some m.cls) (hlink : (Cond.methodLink own index y).before args s = true) (hinst : (Cond.instanceMethod y).before args s = true) (hsel : (Cond.selects C y y).before args s = true)
    (hcode : (Cond.codeWith y bytes maxL ret hh).before args s = true) (hy : y.cls ≠ "java/lang/invoke/MethodHandle" ∧ y.cls ≠ "java/lang/invoke/VarHandle")
    {W9 : Nat} {Pre : Pt → Array Value → Prop} {Post : Pt → Array Value → Option Value → Pt → Prop} (hK : Back l R p e below s args y 3 W9 Pre Post)
    {b : Addr} {cellB : Cell} (hcell : T.heap[b]? = some cellB) (hobj : cellB.vm.isStatics = false) (hcls : s.vm.findClass C = some cellB.cls)
    {g : JFrame} (hg : g.method = m) (hsize : g.locals.size = c.maxLocals) {argsL rest : List Value} (hlen : ∀ sig, parseMethodDescriptor y.desc = some sig → argsL.length = sig.parameters.length)
    (hstack : g.stack = argsL.reverse ++ .ref b :: rest) (hW : 2 * g.monitorRoom + (rest.map fun v => v.category).sum ≤ W9) (hdg : decode c.code g.pc = .ok (.invokevirtual index, 3))
    (hpre : ∀ vm₁, s.WarmedH vm₁ → Pre ⟨T.setVm vm₁, locs, cells, slots⟩ (Value.ref b :: argsL).toArray) :
    ∃ (v : Option Value) (vm₁ : Vm) (B : Pt), s.WarmedH vm₁ ∧ Stand p l e R s m args below meth c B.U B.locs B.cells B.slots ∧ Post ⟨T.setVm vm₁, locs, cells, slots⟩ (Value.ref b :: argsL).toArray v B ∧
      ∀ target, Steps p.tables e below (B.U.setTop { g with pc := g.pc + 3, stack := v.toList ++ rest }) target → Steps p.tables e below (T.setTop g) target := by
  obtain ⟨mk, methM, hnamed, hmethM, hstM, habM⟩ := Cond.instanceMethod_spec hinst
  obtain ⟨m8, methM', cM, hn8, hmethM', -, -, -, -, -, -, hsigM⟩ := Cond.codeWith_spec hcode
  cases Option.some.inj (hn8.symm.trans hnamed)
  cases hmethM.symm.trans hmethM'
  obtain ⟨c2, r2, m2, q1, q2, q3, q4, kP, hkP, hkPi⟩ := Cond.selects_spec hsel
  cases hcls.symm.trans q1
  cases (State.methodFound?_of_named hnamed hy).symm.trans q2
  cases hnamed.symm.trans q3
  have hselP : selectMethod e.platform s.vm cellB.cls mk = .method mk := by rw [Launch.admits_selectMethod X.admits]; exact q4
  obtain ⟨vm₁, X₁, hstep₁⟩ := X.invokevirtual hexec hown hlink hnamed hmethM hstM hkP hkPi hy (a := b) (cell := cellB) hcell
    (fun z h => by rw [h] at hobj; cases hobj) hselP hmethM habM hkP hkPi (g := g) hg (argsL := argsL) (rest := rest) (hlen _ hsigM) hstack hdg
  obtain ⟨v, B, X', hpost, hsteps⟩ := hK m meth c ⟨T.setVm vm₁, locs, cells, slots⟩ { g with stack := rest } (.invokevirtual index) mk (Value.ref b :: argsL).toArray X₁ hg hsize hdg hW (X₁.named hnamed) (hpre vm₁ X₁.warmed)
  exact ⟨v, vm₁, B, X₁.warmed, X', hpost, fun target h => hstep₁ _ fun acts => by rw [doInvoke_state]; exact hsteps.trans h⟩
abbrev vx_CVW (R : Room) (s : State) (args : Array Value) (own C : String) (index : Nat) (y : MethodName) (bytes : ByteArray) (maxL : Nat) (ret : Option FieldType) (hh : List (Nat × Nat × Nat × Nat)) (ws : List Cond) (rm : Room) (mc ms n : Nat) : Prop :=
  (rm.cells = mc ∧ rm.slots = ms ∧ rm.frames + 1 ≤ R.frames ∧ 8 + (maxL + 11) + rm.locals ≤ R.locals ∧ (∀ w ∈ ws, ∀ (a' : Array Value) (U : State), s.WarmedH U.vm → w.before a' U = true) ∧ Cond.codeWith y bytes maxL ret hh ∈ ws) ∧
  (Cond.codeWith y bytes maxL ret hh).before args s = true ∧ (Cond.initialized y.cls).before args s = true ∧ (y.cls ≠ "java/lang/invoke/MethodHandle" ∧ y.cls ≠ "java/lang/invoke/VarHandle") ∧
  (∀ sig, parseMethodDescriptor y.desc = some sig → n = sig.parameters.length) ∧ (Cond.methodLink own index y).before args s = true ∧ (Cond.instanceMethod y).before args s = true ∧ (Cond.selects C y y).before args s = true
theorem vx_cwVW {own C : String} {index maxL mc ms : Nat} {y : MethodName} {bytes : ByteArray} {ret : Option FieldType} {hh : List (Nat × Nat × Nat × Nat)} {Ts ws ws' : List Cond} {rm : Room} (n : Nat) (ht : ∀ w ∈ Ts, w.before args s = true) (hT : GoodIn Ts (wsV own index C y ws)) (hw : ws = Cond.codeWith y bytes maxL ret hh :: ws') (hrc : rm.cells = mc) (hrs : rm.slots = ms)
    (hd : y.cls = C ∧ y.cls ≠ "java/lang/invoke/MethodHandle" ∧ y.cls ≠ "java/lang/invoke/VarHandle" ∧ (parseMethodDescriptor y.desc).map (fun d => d.parameters.length) = some n) (hR : rm.frames + 1 ≤ R.frames ∧ 8 + (maxL + 11) + rm.locals ≤ R.locals) :
    vx_CVW R s args own C index y bytes maxL ret hh ws rm mc ms n := by
  obtain ⟨hC, hd⟩ := hd
  subst hC
  have ok : ∀ w ∈ wsV own index y.cls y ws, w.before args s = true := fun w h => ht w (hT w h).1
  have hG : GoodIn Ts ws := fun w h => hT w (by unfold wsV; exact List.mem_append_right _ h)
  have hc : Cond.codeWith y bytes maxL ret hh ∈ ws := by rw [hw]; exact List.mem_cons_self
  refine ⟨⟨hrc, hrs, hR.1, hR.2, pay_in ht hG, hc⟩, ht _ (hG _ hc).1, ok _ (by simp [wsV]), ⟨hd.1, hd.2.1⟩, fun sig h => ?_, ok _ (by simp [wsV]), ok _ (by simp [wsV]), ok _ (by simp [wsV])⟩
  have h2 := hd.2.2
  rw [h] at h2
  exact (Option.some.inj h2).symm
theorem vx_runVW {y : MethodName} {bytes cc : ByteArray} {maxL nL mc ms n index : Nat} {ret : Option FieldType} {hh : List (Nat × Nat × Nat × Nat)} {ws : List Cond} {rm : Room} {Pc : Array Value → State → Prop} {Qc : Array Value → State → Outcome → State → Prop} {free : Addr → Prop} {Ts : List Cond} {own C : String} {b : Addr} {As rest : List Value} {g : JFrame}
    (S : CallFix p m c cc nL s args Ts own) (hM : Met l y ws rm Pc Qc mc ms free) (cw : vx_CVW R s args own C index y bytes maxL ret hh ws rm mc ms n) (hp : PreV s H C b Pc As)
    (hg : g.method = m) (hn : As.length = n) (hsize : g.locals.size = nL) (hstack : g.stack = As.reverse ++ .ref b :: rest) (hW : 2 * g.monitorRoom + (rest.map fun v => v.category).sum ≤ 8) (hdg : decode cc g.pc = .ok (.invokevirtual index, 3)) (hf : cells + mc ≤ R.cells ∧ slots + ms ≤ R.slots) :
    va_Run p l e R s m args below meth c H locs cells slots mc ms g rest (Qc (Value.ref b :: As).toArray) free := by
  obtain ⟨⟨hrc, hrs, hfr, hlo, hws, hcw⟩, hcode, hini, hy, hlen, hl, hin, hse⟩ := cw
  have hK : Back l R p e below s args y 3 8 (PreOf R mc ms Pc) (PostOf Qc mc ms free) := va_backW (hh := hh) (bytes := bytes) (maxL := maxL) (ret := ret) hM hp.1 hrc hrs hfr hlo hws hcw (fun a' U hW => word_at hW (Or.inl (by first | rfl | simp [Cond.onTables, Cond.keeps, Cond.steady])) hini)
  obtain ⟨hx, hb, hml, ho, -⟩ := S
  obtain ⟨-, ⟨cellB, hcB, hoB, hclB⟩, hPc⟩ := hp
  intro T hT X
  obtain ⟨v, vm₁, ⟨U', l2, c2, s2⟩, hW₁, X', ⟨g', mk, t, L, e1, e2, hq, h1, hL, h2, h3⟩, st⟩ := vx_callVW X hx (C := C) (hh := hh) (bytes := bytes) (maxL := maxL) (ret := ret) ho hl hin hse hcode hy hK (by rw [hT]; exact hcB) hoB hclB hg (hsize.trans hml.symm) (argsL := As) (rest := rest) (fun sig h => hn.trans (hlen sig h)) hstack hW (by rw [hb]; exact hdg)
    (fun vm₁ hW₁ => ⟨hf.1, hf.2, hPc (T.setVm vm₁) hT hW₁⟩)
  dsimp only [Pt.U, Pt.locs, Pt.cells, Pt.slots] at X' e1 e2 h1 h2 h3 st
  subst h1; subst h2; subst h3
  exact ⟨v, (T.setVm vm₁).calling g' mk (Value.ref b :: As).toArray, t, U', L, hT, X', hL, e1, e2, hq, st⟩
section
variable {y : MethodName} {bytes cc : ByteArray} {maxL nL mc ms n index : Nat} {ret : Option FieldType} {ws : List Cond} {rm : Room} {Pc : Array Value → State → Prop} {Qc : Array Value → State → Outcome → State → Prop} {XC : String → State → State → Prop} {free : Addr → Prop} {Ts : List Cond} {own C : String} {b : Addr} {As rest : List Value} {g : JFrame}
theorem vx_runVX {hh : List (Nat × Nat × Nat × Nat)} (S : CallFix p m c cc nL s args Ts own) (hM : vx_Met l y ws rm Pc Qc XC mc ms free) (cw : vx_CVW R s args own C index y bytes maxL ret hh ws rm mc ms n) (hp : PreV s H C b Pc As)
    (hg : g.method = m) (hn : As.length = n) (hsize : g.locals.size = nL) (hstack : g.stack = As.reverse ++ .ref b :: rest) (hW : 2 * g.monitorRoom + (rest.map fun v => v.category).sum ≤ 8) (hdg : decode cc g.pc = .ok (.invokevirtual index, 3)) (hf : cells + mc ≤ R.cells ∧ slots + ms ≤ R.slots) :
    vx_Run p l e R s m args below meth c H locs cells slots mc ms g rest (Qc (Value.ref b :: As).toArray) XC free := by
  obtain ⟨⟨hrc, hrs, hfr, hlo, hws, hcw⟩, hcode, hini, hy, hlen, hl, hin, hse⟩ := cw
  have hK : vx_Back l R p e below s args y 3 8 (PreOf R mc ms Pc) (PostOf Qc mc ms free) (vx_Post XC mc ms free) := vx_backW (hh := hh) (bytes := bytes) (maxL := maxL) (ret := ret) hM hp.1 hrc hrs hfr hlo hws hcw (fun a' U hW => word_at hW (Or.inl (by first | rfl | simp [Cond.onTables, Cond.keeps, Cond.steady])) hini)
  obtain ⟨hx, hb, hml, ho, -⟩ := S
  obtain ⟨-, ⟨cellB, hcB, hoB, hclB⟩, hPc⟩ := hp
  intro T hT X
  rcases vx_callVX X hx (C := C) (hh := hh) (bytes := bytes) (maxL := maxL) (ret := ret) ho hl hin hse hcode hy hK (by rw [hT]; exact hcB) hoB hclB hg (hsize.trans hml.symm) (argsL := As) (rest := rest) (fun sig h => hn.trans (hlen sig h)) hstack hW (by rw [hb]; exact hdg)
    (fun vm₁ hW₁ => ⟨hf.1, hf.2, hPc (T.setVm vm₁) hT hW₁⟩) with ⟨v, vm₁, ⟨U', l2, c2, s2⟩, hW₁, X', ⟨g', mk, t, L, e1, e2, hq, h1, hL, h2, h3⟩, st⟩ | ⟨q, vm₁, ⟨U', l2, c2, s2⟩, hW₁, X', ⟨g', mk, t, L, E, ce, e1, e2, hq, hce, hcv, hcl, h1, hL, h2, h3⟩, st⟩
  · dsimp only [Pt.U, Pt.locs, Pt.cells, Pt.slots] at X' e1 e2 h1 h2 h3 st
    subst h1; subst h2; subst h3
    exact Or.inl ⟨v, (T.setVm vm₁).calling g' mk (Value.ref b :: As).toArray, t, U', L, hT, X', hL, e1, e2, hq, st⟩
  · dsimp only [Pt.U, Pt.locs, Pt.cells, Pt.slots] at X' e1 e2 h1 h2 h3 st hcl
    subst h1; subst h2; subst h3
    exact Or.inr ⟨q, (T.setVm vm₁).calling g' mk (Value.ref b :: As).toArray, t, U', L, E, ce, hT, X', hL, e1, e2, hq, hce, hcv, vx_cls hW₁ hcl, st⟩
theorem vx_runSX {hh : List (Nat × Nat × Nat × Nat)} (S : CallFix p m c cc nL s args Ts own) (hM : vx_Met l y ws rm Pc Qc XC mc ms free) (cw : vx_CSW R s args own index y bytes maxL ret hh ws rm mc ms n) (hp : PreS s H Pc As)
    (hg : g.method = m) (hn : As.length = n) (hsize : g.locals.size = nL) (hstack : g.stack = As.reverse ++ rest) (hW : 2 * g.monitorRoom + (rest.map fun v => v.category).sum ≤ 8) (hdg : decode cc g.pc = .ok (.invokestatic index, 3)) (hf : cells + mc ≤ R.cells ∧ slots + ms ≤ R.slots) :
    vx_Run p l e R s m args below meth c H locs cells slots mc ms g rest (Qc As.toArray) XC free := by
  obtain ⟨⟨hrc, hrs, hfr, hlo, hws, hcw⟩, hcode, hini, hy, hlen, hl, hstt⟩ := cw
  have hK : vx_Back l R p e below s args y 3 8 (PreOf R mc ms Pc) (PostOf Qc mc ms free) (vx_Post XC mc ms free) := vx_backW (hh := hh) (bytes := bytes) (maxL := maxL) (ret := ret) hM hp.1 hrc hrs hfr hlo hws hcw (fun a' U hW => word_at hW (Or.inl (by first | rfl | simp [Cond.onTables, Cond.keeps, Cond.steady])) hini)
  obtain ⟨hx, hb, hml, ho, -⟩ := S
  intro T hT X
  rcases vx_callSX X hx (hh := hh) (bytes := bytes) (maxL := maxL) (ret := ret) ho hl hstt hini hcode hy hK hg (hsize.trans hml.symm) (argsL := As) (rest := rest) (fun sig h => hn.trans (hlen sig h)) hstack hW (by rw [hb]; exact hdg)
    (fun vm₁ hW₁ => ⟨hf.1, hf.2, hp.2 (T.setVm vm₁) hT hW₁⟩) with ⟨v, vm₁, ⟨U', l2, c2, s2⟩, hW₁, X', ⟨g', mk, t, L, e1, e2, hq, h1, hL, h2, h3⟩, st⟩ | ⟨q, vm₁, ⟨U', l2, c2, s2⟩, hW₁, X', ⟨g', mk, t, L, E, ce, e1, e2, hq, hce, hcv, hcl, h1, hL, h2, h3⟩, st⟩
  · dsimp only [Pt.U, Pt.locs, Pt.cells, Pt.slots] at X' e1 e2 h1 h2 h3 st
    subst h1; subst h2; subst h3
    exact Or.inl ⟨v, (T.setVm vm₁).calling g' mk As.toArray, t, U', L, hT, X', hL, e1, e2, hq, st⟩
  · dsimp only [Pt.U, Pt.locs, Pt.cells, Pt.slots] at X' e1 e2 h1 h2 h3 st hcl
    subst h1; subst h2; subst h3
    exact Or.inr ⟨q, (T.setVm vm₁).calling g' mk As.toArray, t, U', L, E, ce, hT, X', hL, e1, e2, hq, hce, hcv, vx_cls hW₁ hcl, st⟩
end
end VXH
theorem vx_ofWH {l : Launch} {y : MethodName} {ws ws' : List Cond} {rm : Room} {Pc : Array Value → State → Prop} {Qc : Array Value → State → Outcome → State → Prop} {XC : String → State → State → Prop} {mc ms : Nat} {free : Addr → Prop} {cc : ByteArray} {maxL : Nat} {ret : Option FieldType} {hh : List (Nat × Nat × Nat × Nat)}
    (hy : plainName y.cls = true) (hw : ws = Cond.codeWith y cc maxL ret hh :: ws')
    (body : ∀ p e s m args below meth c s₁, BodyLoose p l y (headSpec ws rm) cc maxL ret e s m args below meth c s₁ → c.maxLocals = maxL → Pc args s →
      W p l e (headSpec ws rm).room s m args below meth c s.heap [] 0 0 (vx_MQ below Qc XC args s mc ms free) (entryFrame m args maxL)) : vx_Met l y ws rm Pc Qc XC mc ms free := by
  refine MetFree.of_bodyS (code := cc) (maxLocals := maxL) (ret := ret) hy ?_ ?_
  · intro args s m h hn
    obtain ⟨m9, meth, c, hn9, h1, h2, h3, h4, -, h5, h6, -⟩ := Cond.codeWith_spec (atoms_spec (ws := ws) h _ (by rw [hw]; exact List.mem_cons_self))
    cases hn.symm.trans hn9
    exact ⟨meth, c, h1, h2, h3, h4, h5, h6⟩
  · intro p e s m args below meth c s₁ B hml hP _
    have hh0 : s₁.heap = s.heap := by rw [B.state]; rfl
    obtain ⟨t, a1, o, b1, b2, b3⟩ := body p e s m args below meth c s₁ B hml hP s₁ hh0 (Stand.of_body B)
    exact ⟨t, o, a1, b1, b2, b3⟩
/-! ===== END ===== -/
end
section
def RX0 : String := "KnockControl$Engine"
def TX0 : u_T := fun k => match k with
  | _ => ("", "", "", false)
def tyX0 : Nat → FieldType := fun k => match k with
  | _ => .int
abbrev wsX00 : List Cond := u_ws RX0 TX0 0
theorem nmX0 : ∀ a, a < 0 → ∀ b, b < 0 → a ≠ b → (TX0 a).2.1 ≠ (TX0 b).2.1 := by decide +kernel
theorem tyX0_ok : ∀ k, k < 0 → parseFieldDescriptor (TX0 k).2.2.1 = some (tyX0 k) := by decide +kernel
abbrev cX0_cellOf : ByteArray := prog_2_method_2_code
def yX0_cellOf : MethodName := ⟨RX0, "cellOf", "(II)I"⟩
abbrev cX0_basicAdvance : ByteArray := prog_2_method_3_code
def yX0_basicAdvance : MethodName := ⟨RX0, "basicAdvance", "(II)I"⟩
abbrev cX0_knockLimit : ByteArray := prog_2_method_4_code
def yX0_knockLimit : MethodName := ⟨RX0, "knockLimit", "(III)I"⟩
def RX1 : String := "KnockControl$FiringText"
def TX1 : u_T := fun k => match k with
  | 0 => ("KnockControl$FiringText", "bytes", "LKnockControl$Row;", true)
  | 1 => ("KnockControl$FiringText", "numbers", "LKnockControl$Row;", true)
  | 2 => ("KnockControl$FiringText", "length", "I", false)
  | _ => ("KnockControl$FiringText", "numbersRead", "I", false)
def tyX1 : Nat → FieldType := fun k => match k with
  | 0 => .object "KnockControl$Row"
  | 1 => .object "KnockControl$Row"
  | 2 => .int
  | _ => .int
abbrev wsX10 : List Cond := u_ws RX1 TX1 4
theorem nmX1 : ∀ a, a < 4 → ∀ b, b < 4 → a ≠ b → (TX1 a).2.1 ≠ (TX1 b).2.1 := by decide +kernel
theorem tyX1_ok : ∀ k, k < 4 → parseFieldDescriptor (TX1 k).2.2.1 = some (tyX1 k) := by decide +kernel
abbrev cX1_init : ByteArray := prog_3_method_1_code
def yX1_init : MethodName := ⟨RX1, "<init>", "()V"⟩
abbrev cX1_size : ByteArray := prog_3_method_2_code
def yX1_size : MethodName := ⟨RX1, "size", "()I"⟩
abbrev cX1_add : ByteArray := prog_3_method_3_code
def yX1_add : MethodName := ⟨RX1, "add", "(I)V"⟩
abbrev cX1_empty : ByteArray := prog_3_method_4_code
def yX1_empty : MethodName := ⟨RX1, "empty", "()V"⟩
abbrev cX1_read : ByteArray := prog_3_method_5_code
def yX1_read : MethodName := ⟨RX1, "read", "()I"⟩
abbrev cX1_firingsRead : ByteArray := prog_3_method_6_code
def yX1_firingsRead : MethodName := ⟨RX1, "firingsRead", "()I"⟩
abbrev cX1_number : ByteArray := prog_3_method_7_code
def yX1_number : MethodName := ⟨RX1, "number", "(II)I"⟩
abbrev cX1_separator : ByteArray := prog_3_method_8_code
def yX1_separator : MethodName := ⟨RX1, "separator", "()C"⟩
def RX2 : String := "KnockControl$History"
def TX2 : u_T := fun k => match k with
  | 0 => ("KnockControl$History", "states", "[LKnockControl$State;", true)
  | 1 => ("KnockControl$History", "oldest", "I", false)
  | _ => ("KnockControl$History", "count", "I", false)
def tyX2 : Nat → FieldType := fun k => match k with
  | 0 => .array (.object "KnockControl$State")
  | 1 => .int
  | _ => .int
abbrev wsX20 : List Cond := u_ws RX2 TX2 3
theorem nmX2 : ∀ a, a < 3 → ∀ b, b < 3 → a ≠ b → (TX2 a).2.1 ≠ (TX2 b).2.1 := by decide +kernel
theorem tyX2_ok : ∀ k, k < 3 → parseFieldDescriptor (TX2 k).2.2.1 = some (tyX2 k) := by decide +kernel
abbrev cX2_init : ByteArray := prog_4_method_1_code
def yX2_init : MethodName := ⟨RX2, "<init>", "()V"⟩
abbrev cX2_size : ByteArray := prog_4_method_2_code
def yX2_size : MethodName := ⟨RX2, "size", "()I"⟩
abbrev cX2_keep : ByteArray := prog_4_method_3_code
def yX2_keep : MethodName := ⟨RX2, "keep", "(LKnockControl$State;)V"⟩
abbrev cX2_restore : ByteArray := prog_4_method_4_code
def yX2_restore : MethodName := ⟨RX2, "restore", "(LKnockControl$State;)V"⟩
abbrev cX2_placeOf : ByteArray := prog_4_method_5_code
def yX2_placeOf : MethodName := ⟨RX2, "placeOf", "(I)LKnockControl$State;"⟩
def RX3 : String := "KnockControl$Log"
def TX3 : u_T := fun k => match k with
  | 0 => ("KnockControl$Log", "kinds", "LKnockControl$Row;", true)
  | 1 => ("KnockControl$Log", "numbers", "LKnockControl$Row;", true)
  | 2 => ("KnockControl$Log", "firings", "LKnockControl$Row;", true)
  | 3 => ("KnockControl$Log", "oldest", "I", false)
  | _ => ("KnockControl$Log", "count", "I", false)
def tyX3 : Nat → FieldType := fun k => match k with
  | 0 => .object "KnockControl$Row"
  | 1 => .object "KnockControl$Row"
  | 2 => .object "KnockControl$Row"
  | 3 => .int
  | _ => .int
abbrev wsX30 : List Cond := u_ws RX3 TX3 5
theorem nmX3 : ∀ a, a < 5 → ∀ b, b < 5 → a ≠ b → (TX3 a).2.1 ≠ (TX3 b).2.1 := by decide +kernel
theorem tyX3_ok : ∀ k, k < 5 → parseFieldDescriptor (TX3 k).2.2.1 = some (tyX3 k) := by decide +kernel
abbrev cX3_init : ByteArray := prog_5_method_1_code
def yX3_init : MethodName := ⟨RX3, "<init>", "()V"⟩
abbrev cX3_size : ByteArray := prog_5_method_2_code
def yX3_size : MethodName := ⟨RX3, "size", "()I"⟩
abbrev cX3_empty : ByteArray := prog_5_method_3_code
def yX3_empty : MethodName := ⟨RX3, "empty", "()V"⟩
abbrev cX3_note : ByteArray := prog_5_method_4_code
def yX3_note : MethodName := ⟨RX3, "note", "(III)V"⟩
abbrev cX3_about : ByteArray := prog_5_method_5_code
def yX3_about : MethodName := ⟨RX3, "about", "(II)I"⟩
abbrev cX3_copy : ByteArray := prog_5_method_6_code
def yX3_copy : MethodName := ⟨RX3, "copy", "(LKnockControl$Log;)V"⟩
abbrev cX3_placeOf : ByteArray := prog_5_method_7_code
def yX3_placeOf : MethodName := ⟨RX3, "placeOf", "(I)I"⟩
def RX4 : String := "KnockControl$Row"
def TX4 : u_T := fun k => match k with
  | _ => ("KnockControl$Row", "numbers", "[I", true)
def tyX4 : Nat → FieldType := fun k => match k with
  | _ => .array .int
abbrev wsX40 : List Cond := u_ws RX4 TX4 1
theorem nmX4 : ∀ a, a < 1 → ∀ b, b < 1 → a ≠ b → (TX4 a).2.1 ≠ (TX4 b).2.1 := by decide +kernel
theorem tyX4_ok : ∀ k, k < 1 → parseFieldDescriptor (TX4 k).2.2.1 = some (tyX4 k) := by decide +kernel
abbrev cX4_init : ByteArray := prog_6_method_1_code
def yX4_init : MethodName := ⟨RX4, "<init>", "(I)V"⟩
abbrev cX4_at : ByteArray := prog_6_method_2_code
def yX4_at : MethodName := ⟨RX4, "at", "(I)I"⟩
abbrev cX4_put : ByteArray := prog_6_method_3_code
def yX4_put : MethodName := ⟨RX4, "put", "(II)V"⟩
abbrev cX4_raise : ByteArray := prog_6_method_4_code
def yX4_raise : MethodName := ⟨RX4, "raise", "(II)V"⟩
abbrev cX4_fill : ByteArray := prog_6_method_5_code
def yX4_fill : MethodName := ⟨RX4, "fill", "(I)V"⟩
abbrev cX4_copy : ByteArray := prog_6_method_6_code
def yX4_copy : MethodName := ⟨RX4, "copy", "(LKnockControl$Row;)V"⟩
def RX5 : String := "KnockControl$State"
def TX5 : u_T := fun k => match k with
  | 0 => ("KnockControl$State", "settings", "LKnockControl$Row;", true)
  | 1 => ("KnockControl$State", "fast", "LKnockControl$Row;", true)
  | 2 => ("KnockControl$State", "level", "LKnockControl$Row;", true)
  | 3 => ("KnockControl$State", "quiet", "LKnockControl$Row;", true)
  | 4 => ("KnockControl$State", "knocks", "LKnockControl$Row;", true)
  | 5 => ("KnockControl$State", "learned", "LKnockControl$Row;", true)
  | 6 => ("KnockControl$State", "log", "LKnockControl$Log;", true)
  | 7 => ("KnockControl$State", "cylinders", "I", false)
  | 8 => ("KnockControl$State", "steady", "I", false)
  | 9 => ("KnockControl$State", "latestCell", "I", false)
  | 10 => ("KnockControl$State", "low", "I", false)
  | 11 => ("KnockControl$State", "good", "I", false)
  | 12 => ("KnockControl$State", "faulty", "Z", false)
  | 13 => ("KnockControl$State", "firings", "I", false)
  | 14 => ("KnockControl$State", "next", "I", false)
  | 15 => ("KnockControl$State", "s", "I", false)
  | _ => ("KnockControl$State", "broken", "Z", false)
def tyX5 : Nat → FieldType := fun k => match k with
  | 0 => .object "KnockControl$Row"
  | 1 => .object "KnockControl$Row"
  | 2 => .object "KnockControl$Row"
  | 3 => .object "KnockControl$Row"
  | 4 => .object "KnockControl$Row"
  | 5 => .object "KnockControl$Row"
  | 6 => .object "KnockControl$Log"
  | 7 => .int
  | 8 => .int
  | 9 => .int
  | 10 => .int
  | 11 => .int
  | 12 => .boolean
  | 13 => .int
  | 14 => .int
  | 15 => .int
  | _ => .boolean
abbrev wsX50 : List Cond := u_ws RX5 TX5 17
theorem nmX5 : ∀ a, a < 17 → ∀ b, b < 17 → a ≠ b → (TX5 a).2.1 ≠ (TX5 b).2.1 := by decide +kernel
theorem tyX5_ok : ∀ k, k < 17 → parseFieldDescriptor (TX5 k).2.2.1 = some (tyX5 k) := by decide +kernel
abbrev cX5_init : ByteArray := prog_7_method_1_code
def yX5_init : MethodName := ⟨RX5, "<init>", "()V"⟩
abbrev cX5_restart : ByteArray := prog_7_method_2_code
def yX5_restart : MethodName := ⟨RX5, "restart", "(I)V"⟩
abbrev cX5_copy : ByteArray := prog_7_method_3_code
def yX5_copy : MethodName := ⟨RX5, "copy", "(LKnockControl$State;)V"⟩
abbrev cX5_settingOrCylinders : ByteArray := prog_7_method_4_code
def yX5_settingOrCylinders : MethodName := ⟨RX5, "settingOrCylinders", "(I)I"⟩
abbrev cX5_aboutCylinder : ByteArray := prog_7_method_5_code
def yX5_aboutCylinder : MethodName := ⟨RX5, "aboutCylinder", "(II)I"⟩
abbrev cX5_aboutControl : ByteArray := prog_7_method_6_code
def yX5_aboutControl : MethodName := ⟨RX5, "aboutControl", "(I)I"⟩
abbrev cX5_thresholdOf : ByteArray := prog_7_method_7_code
def yX5_thresholdOf : MethodName := ⟨RX5, "thresholdOf", "(I)I"⟩
abbrev cX5_retardOf : ByteArray := prog_7_method_8_code
def yX5_retardOf : MethodName := ⟨RX5, "retardOf", "(II)I"⟩
abbrev cX5_advanceOf : ByteArray := prog_7_method_9_code
def yX5_advanceOf : MethodName := ⟨RX5, "advanceOf", "(III)I"⟩
abbrev cX5_greatestFast : ByteArray := prog_7_method_10_code
def yX5_greatestFast : MethodName := ⟨RX5, "greatestFast", "()I"⟩
abbrev cX5_smallestFast : ByteArray := prog_7_method_11_code
def yX5_smallestFast : MethodName := ⟨RX5, "smallestFast", "()I"⟩
abbrev cX5_allKnocks : ByteArray := prog_7_method_12_code
def yX5_allKnocks : MethodName := ⟨RX5, "allKnocks", "()I"⟩
abbrev cX5_treatModelled : ByteArray := prog_7_method_13_code
def yX5_treatModelled : MethodName := ⟨RX5, "treatModelled", "(III)I"⟩
abbrev cX5_treat : ByteArray := prog_7_method_14_code
def yX5_treat : MethodName := ⟨RX5, "treat", "(III)I"⟩
abbrev cX5_watchSensor : ByteArray := prog_7_method_15_code
def yX5_watchSensor : MethodName := ⟨RX5, "watchSensor", "(I)V"⟩
abbrev cX5_listen : ByteArray := prog_7_method_16_code
def yX5_listen : MethodName := ⟨RX5, "listen", "(III)I"⟩
abbrev cX5_retardFast : ByteArray := prog_7_method_17_code
def yX5_retardFast : MethodName := ⟨RX5, "retardFast", "(IIII)V"⟩
abbrev cX5_lowerFast : ByteArray := prog_7_method_18_code
def yX5_lowerFast : MethodName := ⟨RX5, "lowerFast", "(I)V"⟩
abbrev cX5_keepTogether : ByteArray := prog_7_method_19_code
def yX5_keepTogether : MethodName := ⟨RX5, "keepTogether", "()V"⟩
abbrev cX5_learn : ByteArray := prog_7_method_20_code
def yX5_learn : MethodName := ⟨RX5, "learn", "(I)V"⟩
abbrev cX5_sumOfFast : ByteArray := prog_7_method_21_code
def yX5_sumOfFast : MethodName := ⟨RX5, "sumOfFast", "()I"⟩
def RX6 : String := "KnockControl"
def TX6 : u_T := fun k => match k with
  | 0 => ("KnockControl", "now", "LKnockControl$State;", true)
  | 1 => ("KnockControl", "trial", "LKnockControl$State;", true)
  | 2 => ("KnockControl", "history", "LKnockControl$History;", true)
  | _ => ("KnockControl", "text", "LKnockControl$FiringText;", true)
def tyX6 : Nat → FieldType := fun k => match k with
  | 0 => .object "KnockControl$State"
  | 1 => .object "KnockControl$State"
  | 2 => .object "KnockControl$History"
  | _ => .object "KnockControl$FiringText"
abbrev wsX60 : List Cond := u_ws RX6 TX6 4
theorem nmX6 : ∀ a, a < 4 → ∀ b, b < 4 → a ≠ b → (TX6 a).2.1 ≠ (TX6 b).2.1 := by decide +kernel
theorem tyX6_ok : ∀ k, k < 4 → parseFieldDescriptor (TX6 k).2.2.1 = some (tyX6 k) := by decide +kernel
abbrev cX6_init : ByteArray := prog_1_method_1_code
def yX6_init : MethodName := ⟨RX6, "<init>", "()V"⟩
abbrev cX6_begin : ByteArray := prog_1_method_2_code
def yX6_begin : MethodName := ⟨RX6, "begin", "(I)I"⟩
abbrev cX6_set : ByteArray := prog_1_method_3_code
def yX6_set : MethodName := ⟨RX6, "set", "(II)I"⟩
abbrev cX6_value : ByteArray := prog_1_method_4_code
def yX6_value : MethodName := ⟨RX6, "value", "(I)I"⟩
abbrev cX6_teach : ByteArray := prog_1_method_5_code
def yX6_teach : MethodName := ⟨RX6, "teach", "(III)I"⟩
abbrev cX6_breakSensor : ByteArray := prog_1_method_6_code
def yX6_breakSensor : MethodName := ⟨RX6, "breakSensor", "(Z)Z"⟩
abbrev cX6_seed : ByteArray := prog_1_method_7_code
def yX6_seed : MethodName := ⟨RX6, "seed", "(I)I"⟩
abbrev cX6_fire : ByteArray := prog_1_method_8_code
def yX6_fire : MethodName := ⟨RX6, "fire", "(III)I"⟩
abbrev cX6_drive : ByteArray := prog_1_method_9_code
def yX6_drive : MethodName := ⟨RX6, "drive", "(IIII)I"⟩
abbrev cX6_firings : ByteArray := prog_1_method_10_code
def yX6_firings : MethodName := ⟨RX6, "firings", "()I"⟩
abbrev cX6_next : ByteArray := prog_1_method_11_code
def yX6_next : MethodName := ⟨RX6, "next", "()I"⟩
abbrev cX6_cylinder : ByteArray := prog_1_method_12_code
def yX6_cylinder : MethodName := ⟨RX6, "cylinder", "(II)I"⟩
abbrev cX6_learned : ByteArray := prog_1_method_13_code
def yX6_learned : MethodName := ⟨RX6, "learned", "(II)I"⟩
abbrev cX6_angle : ByteArray := prog_1_method_14_code
def yX6_angle : MethodName := ⟨RX6, "angle", "(IIIZ)I"⟩
abbrev cX6_status : ByteArray := prog_1_method_15_code
def yX6_status : MethodName := ⟨RX6, "status", "(I)I"⟩
abbrev cX6_unfairness : ByteArray := prog_1_method_16_code
def yX6_unfairness : MethodName := ⟨RX6, "unfairness", "()I"⟩
abbrev cX6_rateBits : ByteArray := prog_1_method_17_code
def yX6_rateBits : MethodName := ⟨RX6, "rateBits", "()I"⟩
abbrev cX6_octane : ByteArray := prog_1_method_18_code
def yX6_octane : MethodName := ⟨RX6, "octane", "(I)D"⟩
abbrev cX6_extreme : ByteArray := prog_1_method_19_code
def yX6_extreme : MethodName := ⟨RX6, "extreme", "(IZZ)I"⟩
abbrev cX6_events : ByteArray := prog_1_method_20_code
def yX6_events : MethodName := ⟨RX6, "events", "()I"⟩
abbrev cX6_event : ByteArray := prog_1_method_21_code
def yX6_event : MethodName := ⟨RX6, "event", "(II)I"⟩
abbrev cX6_eventsOf : ByteArray := prog_1_method_22_code
def yX6_eventsOf : MethodName := ⟨RX6, "eventsOf", "(I)I"⟩
abbrev cX6_limit : ByteArray := prog_1_method_23_code
def yX6_limit : MethodName := ⟨RX6, "limit", "(IIII)I"⟩
abbrev cX6_quietAfter : ByteArray := prog_1_method_24_code
def yX6_quietAfter : MethodName := ⟨RX6, "quietAfter", "(III)I"⟩
abbrev cX6_lowestOctane : ByteArray := prog_1_method_25_code
def yX6_lowestOctane : MethodName := ⟨RX6, "lowestOctane", "(III)I"⟩
abbrev cX6_staysQuiet : ByteArray := prog_1_method_26_code
def yX6_staysQuiet : MethodName := ⟨RX6, "staysQuiet", "(IIII)Z"⟩
abbrev cX6_append : ByteArray := prog_1_method_27_code
def yX6_append : MethodName := ⟨RX6, "append", "(I)I"⟩
abbrev cX6_clearText : ByteArray := prog_1_method_28_code
def yX6_clearText : MethodName := ⟨RX6, "clearText", "()I"⟩
abbrev cX6_replay : ByteArray := prog_1_method_29_code
def yX6_replay : MethodName := ⟨RX6, "replay", "()I"⟩
abbrev cX6_firstWrongFiring : ByteArray := prog_1_method_30_code
def yX6_firstWrongFiring : MethodName := ⟨RX6, "firstWrongFiring", "()I"⟩
abbrev cX6_undo : ByteArray := prog_1_method_31_code
def yX6_undo : MethodName := ⟨RX6, "undo", "()I"⟩
abbrev cX6_digest : ByteArray := prog_1_method_32_code
def yX6_digest : MethodName := ⟨RX6, "digest", "()J"⟩
abbrev cX6_mix : ByteArray := prog_1_method_33_code
def yX6_mix : MethodName := ⟨RX6, "mix", "(JJ)J"⟩
abbrev cX6_bitsOfShare : ByteArray := prog_1_method_34_code
def yX6_bitsOfShare : MethodName := ⟨RX6, "bitsOfShare", "(F)I"⟩
abbrev cX6_within : ByteArray := prog_1_method_35_code
def yX6_within : MethodName := ⟨RX6, "within", "(III)Z"⟩
abbrev cX6_isSetting : ByteArray := prog_1_method_36_code
def yX6_isSetting : MethodName := ⟨RX6, "isSetting", "(II)Z"⟩
abbrev cX6_isCell : ByteArray := prog_1_method_37_code
def yX6_isCell : MethodName := ⟨RX6, "isCell", "(II)Z"⟩
abbrev cX6_isOperation : ByteArray := prog_1_method_38_code
def yX6_isOperation : MethodName := ⟨RX6, "isOperation", "(II)Z"⟩
abbrev cX6_isFiring : ByteArray := prog_1_method_39_code
def yX6_isFiring : MethodName := ⟨RX6, "isFiring", "(III)Z"⟩
abbrev cX6_isDriving : ByteArray := prog_1_method_40_code
def yX6_isDriving : MethodName := ⟨RX6, "isDriving", "(III)Z"⟩
abbrev cX6_isCylinder : ByteArray := prog_1_method_41_code
def yX6_isCylinder : MethodName := ⟨RX6, "isCylinder", "(I)Z"⟩
abbrev cX6_demand : ByteArray := prog_1_method_42_code
def yX6_demand : MethodName := ⟨RX6, "demand", "(Z)V"⟩
abbrev cX6_demandPlace : ByteArray := prog_1_method_43_code
def yX6_demandPlace : MethodName := ⟨RX6, "demandPlace", "(Z)V"⟩
abbrev cX6_demandState : ByteArray := prog_1_method_44_code
def yX6_demandState : MethodName := ⟨RX6, "demandState", "(Z)V"⟩
def RX7 : String := "KnockControlModel"
def TX7 : u_T := fun k => match k with
  | 0 => ("KnockControlModel", "now", "[I", true)
  | 1 => ("KnockControlModel", "past", "[I", true)
  | 2 => ("KnockControlModel", "aside", "[I", true)
  | 3 => ("KnockControlModel", "saved", "I", false)
  | 4 => ("KnockControlModel", "refusal", "I", false)
  | 5 => ("KnockControlModel", "text", "[I", true)
  | 6 => ("KnockControlModel", "length", "I", false)
  | 7 => ("KnockControlModel", "spot", "I", false)
  | 8 => ("KnockControlModel", "number", "I", false)
  | 9 => ("KnockControlModel", "readSpeed", "I", false)
  | 10 => ("KnockControlModel", "readLoad", "I", false)
  | 11 => ("KnockControlModel", "readEnergy", "I", false)
  | _ => ("KnockControlModel", "hash", "J", false)
def tyX7 : Nat → FieldType := fun k => match k with
  | 0 => .array .int
  | 1 => .array .int
  | 2 => .array .int
  | 3 => .int
  | 4 => .int
  | 5 => .array .int
  | 6 => .int
  | 7 => .int
  | 8 => .int
  | 9 => .int
  | 10 => .int
  | 11 => .int
  | _ => .long
abbrev wsX70 : List Cond := u_ws RX7 TX7 13
theorem nmX7 : ∀ a, a < 13 → ∀ b, b < 13 → a ≠ b → (TX7 a).2.1 ≠ (TX7 b).2.1 := by decide +kernel
theorem tyX7_ok : ∀ k, k < 13 → parseFieldDescriptor (TX7 k).2.2.1 = some (tyX7 k) := by decide +kernel
abbrev cX7_init : ByteArray := prog_9_method_1_code
def yX7_init : MethodName := ⟨RX7, "<init>", "()V"⟩
abbrev cX7_begins : ByteArray := prog_9_method_2_code
def yX7_begins : MethodName := ⟨RX7, "begins", "(I)V"⟩
abbrev cX7_thrown : ByteArray := prog_9_method_3_code
def yX7_thrown : MethodName := ⟨RX7, "thrown", "()I"⟩
abbrev cX7_refused : ByteArray := prog_9_method_4_code
def yX7_refused : MethodName := ⟨RX7, "refused", "(I)Z"⟩
abbrev cX7_within : ByteArray := prog_9_method_5_code
def yX7_within : MethodName := ⟨RX7, "within", "(III)Z"⟩
abbrev cX7_floor : ByteArray := prog_9_method_6_code
def yX7_floor : MethodName := ⟨RX7, "floor", "(II)I"⟩
abbrev cX7_lesser : ByteArray := prog_9_method_7_code
def yX7_lesser : MethodName := ⟨RX7, "lesser", "(II)I"⟩
abbrev cX7_saves : ByteArray := prog_9_method_8_code
def yX7_saves : MethodName := ⟨RX7, "saves", "()V"⟩
abbrev cX7_undo : ByteArray := prog_9_method_9_code
def yX7_undo : MethodName := ⟨RX7, "undo", "()I"⟩
abbrev cX7_laysAside : ByteArray := prog_9_method_10_code
def yX7_laysAside : MethodName := ⟨RX7, "laysAside", "()V"⟩
abbrev cX7_takesBack : ByteArray := prog_9_method_11_code
def yX7_takesBack : MethodName := ⟨RX7, "takesBack", "()V"⟩
abbrev cX7_begin : ByteArray := prog_9_method_12_code
def yX7_begin : MethodName := ⟨RX7, "begin", "(I)I"⟩
abbrev cX7_isSetting : ByteArray := prog_9_method_13_code
def yX7_isSetting : MethodName := ⟨RX7, "isSetting", "(II)Z"⟩
abbrev cX7_set : ByteArray := prog_9_method_14_code
def yX7_set : MethodName := ⟨RX7, "set", "(II)I"⟩
abbrev cX7_value : ByteArray := prog_9_method_15_code
def yX7_value : MethodName := ⟨RX7, "value", "(I)I"⟩
abbrev cX7_isCell : ByteArray := prog_9_method_16_code
def yX7_isCell : MethodName := ⟨RX7, "isCell", "(II)Z"⟩
abbrev cX7_teach : ByteArray := prog_9_method_17_code
def yX7_teach : MethodName := ⟨RX7, "teach", "(III)I"⟩
abbrev cX7_breakSensor : ByteArray := prog_9_method_18_code
def yX7_breakSensor : MethodName := ⟨RX7, "breakSensor", "(Z)Z"⟩
abbrev cX7_seed : ByteArray := prog_9_method_19_code
def yX7_seed : MethodName := ⟨RX7, "seed", "(I)I"⟩
abbrev cX7_isPoint : ByteArray := prog_9_method_20_code
def yX7_isPoint : MethodName := ⟨RX7, "isPoint", "(II)Z"⟩
abbrev cX7_cellOf : ByteArray := prog_9_method_21_code
def yX7_cellOf : MethodName := ⟨RX7, "cellOf", "(II)I"⟩
abbrev cX7_retard : ByteArray := prog_9_method_22_code
def yX7_retard : MethodName := ⟨RX7, "retard", "(II)I"⟩
abbrev cX7_advance : ByteArray := prog_9_method_23_code
def yX7_advance : MethodName := ⟨RX7, "advance", "(III)I"⟩
abbrev cX7_threshold : ByteArray := prog_9_method_24_code
def yX7_threshold : MethodName := ⟨RX7, "threshold", "(I)I"⟩
abbrev cX7_logs : ByteArray := prog_9_method_25_code
def yX7_logs : MethodName := ⟨RX7, "logs", "(II)V"⟩
abbrev cX7_senses : ByteArray := prog_9_method_26_code
def yX7_senses : MethodName := ⟨RX7, "senses", "(I)V"⟩
abbrev cX7_knocks : ByteArray := prog_9_method_27_code
def yX7_knocks : MethodName := ⟨RX7, "knocks", "(IIII)V"⟩
abbrev cX7_rests : ByteArray := prog_9_method_28_code
def yX7_rests : MethodName := ⟨RX7, "rests", "(II)V"⟩
abbrev cX7_greatest : ByteArray := prog_9_method_29_code
def yX7_greatest : MethodName := ⟨RX7, "greatest", "()I"⟩
abbrev cX7_evens : ByteArray := prog_9_method_30_code
def yX7_evens : MethodName := ⟨RX7, "evens", "()V"⟩
abbrev cX7_learns : ByteArray := prog_9_method_31_code
def yX7_learns : MethodName := ⟨RX7, "learns", "(I)V"⟩
abbrev cX7_treats : ByteArray := prog_9_method_32_code
def yX7_treats : MethodName := ⟨RX7, "treats", "(III)I"⟩
abbrev cX7_knockLimit : ByteArray := prog_9_method_33_code
def yX7_knockLimit : MethodName := ⟨RX7, "knockLimit", "(III)I"⟩
abbrev cX7_fires : ByteArray := prog_9_method_34_code
def yX7_fires : MethodName := ⟨RX7, "fires", "(III)I"⟩
abbrev cX7_fire : ByteArray := prog_9_method_35_code
def yX7_fire : MethodName := ⟨RX7, "fire", "(III)I"⟩
abbrev cX7_isOctane : ByteArray := prog_9_method_36_code
def yX7_isOctane : MethodName := ⟨RX7, "isOctane", "(I)Z"⟩
abbrev cX7_drive : ByteArray := prog_9_method_37_code
def yX7_drive : MethodName := ⟨RX7, "drive", "(IIII)I"⟩
abbrev cX7_firings : ByteArray := prog_9_method_38_code
def yX7_firings : MethodName := ⟨RX7, "firings", "()I"⟩
abbrev cX7_next : ByteArray := prog_9_method_39_code
def yX7_next : MethodName := ⟨RX7, "next", "()I"⟩
abbrev cX7_isCylinder : ByteArray := prog_9_method_40_code
def yX7_isCylinder : MethodName := ⟨RX7, "isCylinder", "(I)Z"⟩
abbrev cX7_tellCylinder : ByteArray := prog_9_method_41_code
def yX7_tellCylinder : MethodName := ⟨RX7, "tellCylinder", "(II)I"⟩
abbrev cX7_cylinder : ByteArray := prog_9_method_42_code
def yX7_cylinder : MethodName := ⟨RX7, "cylinder", "(II)I"⟩
abbrev cX7_learned : ByteArray := prog_9_method_43_code
def yX7_learned : MethodName := ⟨RX7, "learned", "(II)I"⟩
abbrev cX7_angle : ByteArray := prog_9_method_44_code
def yX7_angle : MethodName := ⟨RX7, "angle", "(IIIZ)I"⟩
abbrev cX7_status : ByteArray := prog_9_method_45_code
def yX7_status : MethodName := ⟨RX7, "status", "(I)I"⟩
abbrev cX7_unfairness : ByteArray := prog_9_method_46_code
def yX7_unfairness : MethodName := ⟨RX7, "unfairness", "()I"⟩
abbrev cX7_rateBits : ByteArray := prog_9_method_47_code
def yX7_rateBits : MethodName := ⟨RX7, "rateBits", "()I"⟩
abbrev cX7_octane : ByteArray := prog_9_method_48_code
def yX7_octane : MethodName := ⟨RX7, "octane", "(I)D"⟩
abbrev cX7_extreme : ByteArray := prog_9_method_49_code
def yX7_extreme : MethodName := ⟨RX7, "extreme", "(IZZ)I"⟩
abbrev cX7_events : ByteArray := prog_9_method_50_code
def yX7_events : MethodName := ⟨RX7, "events", "()I"⟩
abbrev cX7_event : ByteArray := prog_9_method_51_code
def yX7_event : MethodName := ⟨RX7, "event", "(II)I"⟩
abbrev cX7_eventsOf : ByteArray := prog_9_method_52_code
def yX7_eventsOf : MethodName := ⟨RX7, "eventsOf", "(I)I"⟩
abbrev cX7_limit : ByteArray := prog_9_method_53_code
def yX7_limit : MethodName := ⟨RX7, "limit", "(IIII)I"⟩
abbrev cX7_quietAfter : ByteArray := prog_9_method_54_code
def yX7_quietAfter : MethodName := ⟨RX7, "quietAfter", "(III)I"⟩
abbrev cX7_lowestOctane : ByteArray := prog_9_method_55_code
def yX7_lowestOctane : MethodName := ⟨RX7, "lowestOctane", "(III)I"⟩
abbrev cX7_append : ByteArray := prog_9_method_56_code
def yX7_append : MethodName := ⟨RX7, "append", "(I)I"⟩
abbrev cX7_clearText : ByteArray := prog_9_method_57_code
def yX7_clearText : MethodName := ⟨RX7, "clearText", "()I"⟩
abbrev cX7_isDigit : ByteArray := prog_9_method_58_code
def yX7_isDigit : MethodName := ⟨RX7, "isDigit", "()Z"⟩
abbrev cX7_reads : ByteArray := prog_9_method_59_code
def yX7_reads : MethodName := ⟨RX7, "reads", "(I)Z"⟩
abbrev cX7_readsFiring : ByteArray := prog_9_method_60_code
def yX7_readsFiring : MethodName := ⟨RX7, "readsFiring", "()Z"⟩
abbrev cX7_replay : ByteArray := prog_9_method_61_code
def yX7_replay : MethodName := ⟨RX7, "replay", "()I"⟩
abbrev cX7_mix : ByteArray := prog_9_method_62_code
def yX7_mix : MethodName := ⟨RX7, "mix", "(I)V"⟩
abbrev cX7_mixAll : ByteArray := prog_9_method_63_code
def yX7_mixAll : MethodName := ⟨RX7, "mixAll", "(II)V"⟩
abbrev cX7_digest : ByteArray := prog_9_method_64_code
def yX7_digest : MethodName := ⟨RX7, "digest", "()J"⟩
def RJxf58ca : String := "java/lang/Float"
def TJxf58ca : u_T := fun k => match k with
  | _ => ("", "", "", false)
def tyJxf58ca : Nat → FieldType := fun k => match k with
  | _ => .int
theorem nmJxf58ca : ∀ a, a < 0 → ∀ b, b < 0 → a ≠ b → (TJxf58ca a).2.1 ≠ (TJxf58ca b).2.1 := by decide +kernel
theorem tyJxf58ca_ok : ∀ k, k < 0 → parseFieldDescriptor (TJxf58ca k).2.2.1 = some (tyJxf58ca k) := by decide +kernel
abbrev cJxf58ca_isNaN_12338 : ByteArray := prog_11_method_6_code
def yJxf58ca_isNaN_12338 : MethodName := ⟨RJxf58ca, "isNaN", "(F)Z"⟩
abbrev cJxf58ca_floatToIntBits_5c35a : ByteArray := prog_11_method_24_code
def yJxf58ca_floatToIntBits_5c35a : MethodName := ⟨RJxf58ca, "floatToIntBits", "(F)I"⟩
def RJ9 : String := "java/lang/Math"
def TJ9 : u_T := fun k => match k with
  | _ => ("", "", "", false)
def tyJ9 : Nat → FieldType := fun k => match k with
  | _ => .int
theorem nmJ9 : ∀ a, a < 0 → ∀ b, b < 0 → a ≠ b → (TJ9 a).2.1 ≠ (TJ9 b).2.1 := by decide +kernel
theorem tyJ9_ok : ∀ k, k < 0 → parseFieldDescriptor (TJ9 k).2.2.1 = some (tyJ9 k) := by decide +kernel
abbrev cJ9_floorDiv_7cf53 : ByteArray := prog_15_method_47_code
def yJ9_floorDiv_7cf53 : MethodName := ⟨RJ9, "floorDiv", "(II)I"⟩
abbrev cJ9_max_7cf53 : ByteArray := prog_15_method_65_code
def yJ9_max_7cf53 : MethodName := ⟨RJ9, "max", "(II)I"⟩
abbrev cJ9_min_7cf53 : ByteArray := prog_15_method_69_code
def yJ9_min_7cf53 : MethodName := ⟨RJ9, "min", "(II)I"⟩
def RJ0 : String := "java/lang/String"
def TJ0 : u_T := fun k => match k with
  | _ => ("", "", "", false)
def tyJ0 : Nat → FieldType := fun k => match k with
  | _ => .int
theorem nmJ0 : ∀ a, a < 0 → ∀ b, b < 0 → a ≠ b → (TJ0 a).2.1 ≠ (TJ0 b).2.1 := by decide +kernel
theorem tyJ0_ok : ∀ k, k < 0 → parseFieldDescriptor (TJ0 k).2.2.1 = some (tyJ0 k) := by decide +kernel
def RL : String := "KnockControlLaw"
abbrev cL_begin : ByteArray := method_3_code
def yL_begin : MethodName := ⟨RL, "begin", "(LKnockControl;I[J)I"⟩
abbrev cL_set : ByteArray := method_4_code
def yL_set : MethodName := ⟨RL, "set", "(LKnockControl;II[J)I"⟩
abbrev cL_value : ByteArray := method_5_code
def yL_value : MethodName := ⟨RL, "value", "(LKnockControl;I[J)I"⟩
abbrev cL_teach : ByteArray := method_6_code
def yL_teach : MethodName := ⟨RL, "teach", "(LKnockControl;III[J)I"⟩
abbrev cL_seed : ByteArray := method_7_code
def yL_seed : MethodName := ⟨RL, "seed", "(LKnockControl;I[J)I"⟩
abbrev cL_fire : ByteArray := method_8_code
def yL_fire : MethodName := ⟨RL, "fire", "(LKnockControl;III[J)I"⟩
abbrev cL_drive : ByteArray := method_9_code
def yL_drive : MethodName := ⟨RL, "drive", "(LKnockControl;IIII[J)I"⟩
abbrev cL_cylinder : ByteArray := method_10_code
def yL_cylinder : MethodName := ⟨RL, "cylinder", "(LKnockControl;II[J)I"⟩
abbrev cL_learned : ByteArray := method_11_code
def yL_learned : MethodName := ⟨RL, "learned", "(LKnockControl;II[J)I"⟩
abbrev cL_angle : ByteArray := method_12_code
def yL_angle : MethodName := ⟨RL, "angle", "(LKnockControl;IIIZ[J)I"⟩
abbrev cL_status : ByteArray := method_13_code
def yL_status : MethodName := ⟨RL, "status", "(LKnockControl;I[J)I"⟩
abbrev cL_octane : ByteArray := method_14_code
def yL_octane : MethodName := ⟨RL, "octane", "(LKnockControl;I[D)I"⟩
abbrev cL_extreme : ByteArray := method_15_code
def yL_extreme : MethodName := ⟨RL, "extreme", "(LKnockControl;IZZ[J)I"⟩
abbrev cL_event : ByteArray := method_16_code
def yL_event : MethodName := ⟨RL, "event", "(LKnockControl;II[J)I"⟩
abbrev cL_eventsOf : ByteArray := method_17_code
def yL_eventsOf : MethodName := ⟨RL, "eventsOf", "(LKnockControl;I[J)I"⟩
abbrev cL_limit : ByteArray := method_18_code
def yL_limit : MethodName := ⟨RL, "limit", "(LKnockControl;IIII[J)I"⟩
abbrev cL_quietAfter : ByteArray := method_19_code
def yL_quietAfter : MethodName := ⟨RL, "quietAfter", "(LKnockControl;III[J)I"⟩
abbrev cL_lowestOctane : ByteArray := method_20_code
def yL_lowestOctane : MethodName := ⟨RL, "lowestOctane", "(LKnockControl;III[J)I"⟩
abbrev cL_append : ByteArray := method_21_code
def yL_append : MethodName := ⟨RL, "append", "(LKnockControl;I[J)I"⟩
abbrev cL_undo : ByteArray := method_22_code
def yL_undo : MethodName := ⟨RL, "undo", "(LKnockControl;[J)I"⟩
abbrev cL_law : ByteArray := code
def yL_law : MethodName := ⟨RL, "law", "([I)Z"⟩
abbrev vwCl : List vw_C := [(RX1, TX1, 4), (RX2, TX2, 3), (RX3, TX3, 5), (RX4, TX4, 1), (RX5, TX5, 17), (RX6, TX6, 4), (RX7, TX7, 13)]
end
section
theorem dX0_cellOf_0 : decode cX0_cellOf 0 = .ok (.iload_n 0, 1) := by decide +kernel
theorem dX0_cellOf_1 : decode cX0_cellOf 1 = .ok (.sipush 500, 3) := by decide +kernel
theorem dX0_cellOf_4 : decode cX0_cellOf 4 = .ok (.isub, 1) := by decide +kernel
theorem dX0_cellOf_5 : decode cX0_cellOf 5 = .ok (.sipush 1000, 3) := by decide +kernel
theorem dX0_cellOf_8 : decode cX0_cellOf 8 = .ok (.idiv, 1) := by decide +kernel
theorem dX0_cellOf_9 : decode cX0_cellOf 9 = .ok (.iconst 5, 1) := by decide +kernel
theorem dX0_cellOf_10 : decode cX0_cellOf 10 = .ok (.invokestatic 9, 3) := by decide +kernel
theorem dX0_cellOf_13 : decode cX0_cellOf 13 = .ok (.istore_n 2, 1) := by decide +kernel
theorem dX0_cellOf_14 : decode cX0_cellOf 14 = .ok (.iload_n 1, 1) := by decide +kernel
theorem dX0_cellOf_15 : decode cX0_cellOf 15 = .ok (.bipush 25, 2) := by decide +kernel
theorem dX0_cellOf_17 : decode cX0_cellOf 17 = .ok (.idiv, 1) := by decide +kernel
theorem dX0_cellOf_18 : decode cX0_cellOf 18 = .ok (.iconst 3, 1) := by decide +kernel
theorem dX0_cellOf_19 : decode cX0_cellOf 19 = .ok (.invokestatic 9, 3) := by decide +kernel
theorem dX0_cellOf_22 : decode cX0_cellOf 22 = .ok (.istore_n 3, 1) := by decide +kernel
theorem dX0_cellOf_23 : decode cX0_cellOf 23 = .ok (.iconst 4, 1) := by decide +kernel
theorem dX0_cellOf_24 : decode cX0_cellOf 24 = .ok (.iload_n 2, 1) := by decide +kernel
theorem dX0_cellOf_25 : decode cX0_cellOf 25 = .ok (.imul, 1) := by decide +kernel
theorem dX0_cellOf_26 : decode cX0_cellOf 26 = .ok (.iload_n 3, 1) := by decide +kernel
theorem dX0_cellOf_27 : decode cX0_cellOf 27 = .ok (.iadd, 1) := by decide +kernel
theorem dX0_cellOf_28 : decode cX0_cellOf 28 = .ok (.ireturn, 1) := by decide +kernel
theorem dX0_basicAdvance_0 : decode cX0_basicAdvance 0 = .ok (.bipush 100, 2) := by decide +kernel
theorem dX0_basicAdvance_2 : decode cX0_basicAdvance 2 = .ok (.iload_n 0, 1) := by decide +kernel
theorem dX0_basicAdvance_3 : decode cX0_basicAdvance 3 = .ok (.bipush 50, 2) := by decide +kernel
theorem dX0_basicAdvance_5 : decode cX0_basicAdvance 5 = .ok (.idiv, 1) := by decide +kernel
theorem dX0_basicAdvance_6 : decode cX0_basicAdvance 6 = .ok (.iadd, 1) := by decide +kernel
theorem dX0_basicAdvance_7 : decode cX0_basicAdvance 7 = .ok (.iload_n 1, 1) := by decide +kernel
theorem dX0_basicAdvance_8 : decode cX0_basicAdvance 8 = .ok (.isub, 1) := by decide +kernel
theorem dX0_basicAdvance_9 : decode cX0_basicAdvance 9 = .ok (.ireturn, 1) := by decide +kernel
theorem dX0_knockLimit_0 : decode cX0_knockLimit 0 = .ok (.sipush 150, 3) := by decide +kernel
theorem dX0_knockLimit_3 : decode cX0_knockLimit 3 = .ok (.iload_n 0, 1) := by decide +kernel
theorem dX0_knockLimit_4 : decode cX0_knockLimit 4 = .ok (.bipush 60, 2) := by decide +kernel
theorem dX0_knockLimit_6 : decode cX0_knockLimit 6 = .ok (.idiv, 1) := by decide +kernel
theorem dX0_knockLimit_7 : decode cX0_knockLimit 7 = .ok (.iadd, 1) := by decide +kernel
theorem dX0_knockLimit_8 : decode cX0_knockLimit 8 = .ok (.iload_n 1, 1) := by decide +kernel
theorem dX0_knockLimit_9 : decode cX0_knockLimit 9 = .ok (.iconst 3, 1) := by decide +kernel
theorem dX0_knockLimit_10 : decode cX0_knockLimit 10 = .ok (.imul, 1) := by decide +kernel
theorem dX0_knockLimit_11 : decode cX0_knockLimit 11 = .ok (.iconst 2, 1) := by decide +kernel
theorem dX0_knockLimit_12 : decode cX0_knockLimit 12 = .ok (.idiv, 1) := by decide +kernel
theorem dX0_knockLimit_13 : decode cX0_knockLimit 13 = .ok (.isub, 1) := by decide +kernel
theorem dX0_knockLimit_14 : decode cX0_knockLimit 14 = .ok (.iload_n 2, 1) := by decide +kernel
theorem dX0_knockLimit_15 : decode cX0_knockLimit 15 = .ok (.bipush 95, 2) := by decide +kernel
theorem dX0_knockLimit_17 : decode cX0_knockLimit 17 = .ok (.isub, 1) := by decide +kernel
theorem dX0_knockLimit_18 : decode cX0_knockLimit 18 = .ok (.bipush 8, 2) := by decide +kernel
theorem dX0_knockLimit_20 : decode cX0_knockLimit 20 = .ok (.imul, 1) := by decide +kernel
theorem dX0_knockLimit_21 : decode cX0_knockLimit 21 = .ok (.iadd, 1) := by decide +kernel
theorem dX0_knockLimit_22 : decode cX0_knockLimit 22 = .ok (.ireturn, 1) := by decide +kernel
theorem dX1_init_0 : decode cX1_init 0 = .ok (.aload_n 0, 1) := by decide +kernel
theorem dX1_init_1 : decode cX1_init 1 = .ok (.invokespecial 3, 3) := by decide +kernel
theorem dX1_init_4 : decode cX1_init 4 = .ok (.aload_n 0, 1) := by decide +kernel
theorem dX1_init_5 : decode cX1_init 5 = .ok (.new 9, 3) := by decide +kernel
theorem dX1_init_8 : decode cX1_init 8 = .ok (.dup, 1) := by decide +kernel
theorem dX1_init_9 : decode cX1_init 9 = .ok (.bipush 120, 2) := by decide +kernel
theorem dX1_init_11 : decode cX1_init 11 = .ok (.invokespecial 11, 3) := by decide +kernel
theorem dX1_init_14 : decode cX1_init 14 = .ok (.putfield 14, 3) := by decide +kernel
theorem dX1_init_17 : decode cX1_init 17 = .ok (.aload_n 0, 1) := by decide +kernel
theorem dX1_init_18 : decode cX1_init 18 = .ok (.new 9, 3) := by decide +kernel
theorem dX1_init_21 : decode cX1_init 21 = .ok (.dup, 1) := by decide +kernel
theorem dX1_init_22 : decode cX1_init 22 = .ok (.bipush 60, 2) := by decide +kernel
theorem dX1_init_24 : decode cX1_init 24 = .ok (.invokespecial 11, 3) := by decide +kernel
theorem dX1_init_27 : decode cX1_init 27 = .ok (.putfield 20, 3) := by decide +kernel
theorem dX1_init_30 : decode cX1_init 30 = .ok (.return_, 1) := by decide +kernel
theorem dX1_size_0 : decode cX1_size 0 = .ok (.aload_n 0, 1) := by decide +kernel
theorem dX1_size_1 : decode cX1_size 1 = .ok (.getfield 23, 3) := by decide +kernel
theorem dX1_size_4 : decode cX1_size 4 = .ok (.ireturn, 1) := by decide +kernel
theorem dX1_add_0 : decode cX1_add 0 = .ok (.aload_n 0, 1) := by decide +kernel
theorem dX1_add_1 : decode cX1_add 1 = .ok (.getfield 23, 3) := by decide +kernel
theorem dX1_add_4 : decode cX1_add 4 = .ok (.bipush 120, 2) := by decide +kernel
theorem dX1_add_6 : decode cX1_add 6 = .ok (.if_icmp .ge 25, 3) := by decide +kernel
theorem dX1_add_9 : decode cX1_add 9 = .ok (.aload_n 0, 1) := by decide +kernel
theorem dX1_add_10 : decode cX1_add 10 = .ok (.getfield 14, 3) := by decide +kernel
theorem dX1_add_13 : decode cX1_add 13 = .ok (.aload_n 0, 1) := by decide +kernel
theorem dX1_add_14 : decode cX1_add 14 = .ok (.getfield 23, 3) := by decide +kernel
theorem dX1_add_17 : decode cX1_add 17 = .ok (.iload_n 1, 1) := by decide +kernel
theorem dX1_add_18 : decode cX1_add 18 = .ok (.invokevirtual 27, 3) := by decide +kernel
theorem dX1_add_21 : decode cX1_add 21 = .ok (.aload_n 0, 1) := by decide +kernel
theorem dX1_add_22 : decode cX1_add 22 = .ok (.dup, 1) := by decide +kernel
theorem dX1_add_23 : decode cX1_add 23 = .ok (.getfield 23, 3) := by decide +kernel
theorem dX1_add_26 : decode cX1_add 26 = .ok (.iconst 1, 1) := by decide +kernel
theorem dX1_add_27 : decode cX1_add 27 = .ok (.iadd, 1) := by decide +kernel
theorem dX1_add_28 : decode cX1_add 28 = .ok (.putfield 23, 3) := by decide +kernel
theorem dX1_add_31 : decode cX1_add 31 = .ok (.return_, 1) := by decide +kernel
theorem dX1_empty_0 : decode cX1_empty 0 = .ok (.aload_n 0, 1) := by decide +kernel
theorem dX1_empty_1 : decode cX1_empty 1 = .ok (.iconst 0, 1) := by decide +kernel
theorem dX1_empty_2 : decode cX1_empty 2 = .ok (.putfield 23, 3) := by decide +kernel
theorem dX1_empty_5 : decode cX1_empty 5 = .ok (.return_, 1) := by decide +kernel
theorem dX1_read_0 : decode cX1_read 0 = .ok (.aload_n 0, 1) := by decide +kernel
theorem dX1_read_1 : decode cX1_read 1 = .ok (.iconst 0, 1) := by decide +kernel
theorem dX1_read_2 : decode cX1_read 2 = .ok (.putfield 31, 3) := by decide +kernel
theorem dX1_read_5 : decode cX1_read 5 = .ok (.iconst 0, 1) := by decide +kernel
theorem dX1_read_6 : decode cX1_read 6 = .ok (.istore_n 1, 1) := by decide +kernel
theorem dX1_read_7 : decode cX1_read 7 = .ok (.iconst 0, 1) := by decide +kernel
theorem dX1_read_8 : decode cX1_read 8 = .ok (.istore_n 2, 1) := by decide +kernel
theorem dX1_read_9 : decode cX1_read 9 = .ok (.iconst 0, 1) := by decide +kernel
theorem dX1_read_10 : decode cX1_read 10 = .ok (.istore_n 3, 1) := by decide +kernel
theorem dX1_read_11 : decode cX1_read 11 = .ok (.iload_n 3, 1) := by decide +kernel
theorem dX1_read_12 : decode cX1_read 12 = .ok (.aload_n 0, 1) := by decide +kernel
theorem dX1_read_13 : decode cX1_read 13 = .ok (.getfield 23, 3) := by decide +kernel
theorem dX1_read_16 : decode cX1_read 16 = .ok (.if_icmp .ge 99, 3) := by decide +kernel
theorem dX1_read_19 : decode cX1_read 19 = .ok (.aload_n 0, 1) := by decide +kernel
theorem dX1_read_20 : decode cX1_read 20 = .ok (.getfield 14, 3) := by decide +kernel
theorem dX1_read_23 : decode cX1_read 23 = .ok (.iload_n 3, 1) := by decide +kernel
theorem dX1_read_24 : decode cX1_read 24 = .ok (.invokevirtual 34, 3) := by decide +kernel
theorem dX1_read_27 : decode cX1_read 27 = .ok (.istore 4, 2) := by decide +kernel
theorem dX1_read_29 : decode cX1_read 29 = .ok (.iload 4, 2) := by decide +kernel
theorem dX1_read_31 : decode cX1_read 31 = .ok (.bipush 48, 2) := by decide +kernel
theorem dX1_read_33 : decode cX1_read 33 = .ok (.if_icmp .lt 32, 3) := by decide +kernel
theorem dX1_read_36 : decode cX1_read 36 = .ok (.iload 4, 2) := by decide +kernel
theorem dX1_read_38 : decode cX1_read 38 = .ok (.bipush 57, 2) := by decide +kernel
theorem dX1_read_40 : decode cX1_read 40 = .ok (.if_icmp .gt 25, 3) := by decide +kernel
theorem dX1_read_43 : decode cX1_read 43 = .ok (.iload_n 1, 1) := by decide +kernel
theorem dX1_read_44 : decode cX1_read 44 = .ok (.iconst 5, 1) := by decide +kernel
theorem dX1_read_45 : decode cX1_read 45 = .ok (.if_icmp .ge 20, 3) := by decide +kernel
theorem dX1_read_48 : decode cX1_read 48 = .ok (.bipush 10, 2) := by decide +kernel
theorem dX1_read_50 : decode cX1_read 50 = .ok (.iload_n 2, 1) := by decide +kernel
theorem dX1_read_51 : decode cX1_read 51 = .ok (.imul, 1) := by decide +kernel
theorem dX1_read_52 : decode cX1_read 52 = .ok (.iload 4, 2) := by decide +kernel
theorem dX1_read_54 : decode cX1_read 54 = .ok (.iadd, 1) := by decide +kernel
theorem dX1_read_55 : decode cX1_read 55 = .ok (.bipush 48, 2) := by decide +kernel
theorem dX1_read_57 : decode cX1_read 57 = .ok (.isub, 1) := by decide +kernel
theorem dX1_read_58 : decode cX1_read 58 = .ok (.istore_n 2, 1) := by decide +kernel
theorem dX1_read_59 : decode cX1_read 59 = .ok (.iinc 1 1, 3) := by decide +kernel
theorem dX1_read_62 : decode cX1_read 62 = .ok (.goto 47, 3) := by decide +kernel
theorem dX1_read_65 : decode cX1_read 65 = .ok (.iload_n 1, 1) := by decide +kernel
theorem dX1_read_66 : decode cX1_read 66 = .ok (.ifCond .le 41, 3) := by decide +kernel
theorem dX1_read_69 : decode cX1_read 69 = .ok (.iload 4, 2) := by decide +kernel
theorem dX1_read_71 : decode cX1_read 71 = .ok (.aload_n 0, 1) := by decide +kernel
theorem dX1_read_72 : decode cX1_read 72 = .ok (.invokevirtual 38, 3) := by decide +kernel
theorem dX1_read_75 : decode cX1_read 75 = .ok (.if_icmp .ne 32, 3) := by decide +kernel
theorem dX1_read_78 : decode cX1_read 78 = .ok (.aload_n 0, 1) := by decide +kernel
theorem dX1_read_79 : decode cX1_read 79 = .ok (.getfield 20, 3) := by decide +kernel
theorem dX1_read_82 : decode cX1_read 82 = .ok (.aload_n 0, 1) := by decide +kernel
theorem dX1_read_83 : decode cX1_read 83 = .ok (.getfield 31, 3) := by decide +kernel
theorem dX1_read_86 : decode cX1_read 86 = .ok (.iload_n 2, 1) := by decide +kernel
theorem dX1_read_87 : decode cX1_read 87 = .ok (.invokevirtual 27, 3) := by decide +kernel
theorem dX1_read_90 : decode cX1_read 90 = .ok (.aload_n 0, 1) := by decide +kernel
theorem dX1_read_91 : decode cX1_read 91 = .ok (.dup, 1) := by decide +kernel
theorem dX1_read_92 : decode cX1_read 92 = .ok (.getfield 31, 3) := by decide +kernel
theorem dX1_read_95 : decode cX1_read 95 = .ok (.iconst 1, 1) := by decide +kernel
theorem dX1_read_96 : decode cX1_read 96 = .ok (.iadd, 1) := by decide +kernel
theorem dX1_read_97 : decode cX1_read 97 = .ok (.putfield 31, 3) := by decide +kernel
theorem dX1_read_100 : decode cX1_read 100 = .ok (.iconst 0, 1) := by decide +kernel
theorem dX1_read_101 : decode cX1_read 101 = .ok (.istore_n 2, 1) := by decide +kernel
theorem dX1_read_102 : decode cX1_read 102 = .ok (.iconst 0, 1) := by decide +kernel
theorem dX1_read_103 : decode cX1_read 103 = .ok (.istore_n 1, 1) := by decide +kernel
theorem dX1_read_104 : decode cX1_read 104 = .ok (.goto 5, 3) := by decide +kernel
theorem dX1_read_107 : decode cX1_read 107 = .ok (.iload_n 3, 1) := by decide +kernel
theorem dX1_read_108 : decode cX1_read 108 = .ok (.ireturn, 1) := by decide +kernel
theorem dX1_read_109 : decode cX1_read 109 = .ok (.iinc 3 1, 3) := by decide +kernel
theorem dX1_read_112 : decode cX1_read 112 = .ok (.goto (-101), 3) := by decide +kernel
theorem dX1_read_115 : decode cX1_read 115 = .ok (.iload_n 1, 1) := by decide +kernel
theorem dX1_read_116 : decode cX1_read 116 = .ok (.ifCond .ne 16, 3) := by decide +kernel
theorem dX1_read_119 : decode cX1_read 119 = .ok (.aload_n 0, 1) := by decide +kernel
theorem dX1_read_120 : decode cX1_read 120 = .ok (.getfield 31, 3) := by decide +kernel
theorem dX1_read_123 : decode cX1_read 123 = .ok (.iconst 3, 1) := by decide +kernel
theorem dX1_read_124 : decode cX1_read 124 = .ok (.irem, 1) := by decide +kernel
theorem dX1_read_125 : decode cX1_read 125 = .ok (.ifCond .ne 7, 3) := by decide +kernel
theorem dX1_read_128 : decode cX1_read 128 = .ok (.iconst 1, 1) := by decide +kernel
theorem dX1_read_129 : decode cX1_read 129 = .ok (.goto 4, 3) := by decide +kernel
theorem dX1_read_132 : decode cX1_read 132 = .ok (.iconst 0, 1) := by decide +kernel
theorem dX1_read_133 : decode cX1_read 133 = .ok (.istore_n 3, 1) := by decide +kernel
theorem dX1_read_134 : decode cX1_read 134 = .ok (.iload_n 3, 1) := by decide +kernel
theorem dX1_read_135 : decode cX1_read 135 = .ok (.ifCond .eq 7, 3) := by decide +kernel
theorem dX1_read_138 : decode cX1_read 138 = .ok (.iconst (-1), 1) := by decide +kernel
theorem dX1_read_139 : decode cX1_read 139 = .ok (.goto 7, 3) := by decide +kernel
theorem dX1_read_142 : decode cX1_read 142 = .ok (.aload_n 0, 1) := by decide +kernel
theorem dX1_read_143 : decode cX1_read 143 = .ok (.getfield 23, 3) := by decide +kernel
theorem dX1_read_146 : decode cX1_read 146 = .ok (.ireturn, 1) := by decide +kernel
theorem dX1_firingsRead_0 : decode cX1_firingsRead 0 = .ok (.aload_n 0, 1) := by decide +kernel
theorem dX1_firingsRead_1 : decode cX1_firingsRead 1 = .ok (.getfield 31, 3) := by decide +kernel
theorem dX1_firingsRead_4 : decode cX1_firingsRead 4 = .ok (.iconst 3, 1) := by decide +kernel
theorem dX1_firingsRead_5 : decode cX1_firingsRead 5 = .ok (.idiv, 1) := by decide +kernel
theorem dX1_firingsRead_6 : decode cX1_firingsRead 6 = .ok (.ireturn, 1) := by decide +kernel
theorem dX1_number_0 : decode cX1_number 0 = .ok (.aload_n 0, 1) := by decide +kernel
theorem dX1_number_1 : decode cX1_number 1 = .ok (.getfield 20, 3) := by decide +kernel
theorem dX1_number_4 : decode cX1_number 4 = .ok (.iconst 3, 1) := by decide +kernel
theorem dX1_number_5 : decode cX1_number 5 = .ok (.iload_n 1, 1) := by decide +kernel
theorem dX1_number_6 : decode cX1_number 6 = .ok (.imul, 1) := by decide +kernel
theorem dX1_number_7 : decode cX1_number 7 = .ok (.iload_n 2, 1) := by decide +kernel
theorem dX1_number_8 : decode cX1_number 8 = .ok (.iadd, 1) := by decide +kernel
theorem dX1_number_9 : decode cX1_number 9 = .ok (.invokevirtual 34, 3) := by decide +kernel
theorem dX1_number_12 : decode cX1_number 12 = .ok (.ireturn, 1) := by decide +kernel
theorem dX1_separator_0 : decode cX1_separator 0 = .ok (.aload_n 0, 1) := by decide +kernel
theorem dX1_separator_1 : decode cX1_separator 1 = .ok (.getfield 31, 3) := by decide +kernel
theorem dX1_separator_4 : decode cX1_separator 4 = .ok (.iconst 3, 1) := by decide +kernel
theorem dX1_separator_5 : decode cX1_separator 5 = .ok (.irem, 1) := by decide +kernel
theorem dX1_separator_6 : decode cX1_separator 6 = .ok (.iconst 2, 1) := by decide +kernel
theorem dX1_separator_7 : decode cX1_separator 7 = .ok (.if_icmp .ne 7, 3) := by decide +kernel
theorem dX1_separator_10 : decode cX1_separator 10 = .ok (.iconst 1, 1) := by decide +kernel
theorem dX1_separator_11 : decode cX1_separator 11 = .ok (.goto 4, 3) := by decide +kernel
theorem dX1_separator_14 : decode cX1_separator 14 = .ok (.iconst 0, 1) := by decide +kernel
theorem dX1_separator_15 : decode cX1_separator 15 = .ok (.istore_n 1, 1) := by decide +kernel
theorem dX1_separator_16 : decode cX1_separator 16 = .ok (.iload_n 1, 1) := by decide +kernel
theorem dX1_separator_17 : decode cX1_separator 17 = .ok (.ifCond .eq 8, 3) := by decide +kernel
theorem dX1_separator_20 : decode cX1_separator 20 = .ok (.bipush 59, 2) := by decide +kernel
theorem dX1_separator_22 : decode cX1_separator 22 = .ok (.goto 5, 3) := by decide +kernel
theorem dX1_separator_25 : decode cX1_separator 25 = .ok (.bipush 32, 2) := by decide +kernel
theorem dX1_separator_27 : decode cX1_separator 27 = .ok (.ireturn, 1) := by decide +kernel
theorem dX2_init_0 : decode cX2_init 0 = .ok (.aload_n 0, 1) := by decide +kernel
theorem dX2_init_1 : decode cX2_init 1 = .ok (.invokespecial 3, 3) := by decide +kernel
theorem dX2_init_4 : decode cX2_init 4 = .ok (.aload_n 0, 1) := by decide +kernel
theorem dX2_init_5 : decode cX2_init 5 = .ok (.iconst 4, 1) := by decide +kernel
theorem dX2_init_6 : decode cX2_init 6 = .ok (.anewarray 9, 3) := by decide +kernel
theorem dX2_init_9 : decode cX2_init 9 = .ok (.putfield 11, 3) := by decide +kernel
theorem dX2_init_12 : decode cX2_init 12 = .ok (.iconst 0, 1) := by decide +kernel
theorem dX2_init_13 : decode cX2_init 13 = .ok (.istore_n 1, 1) := by decide +kernel
theorem dX2_init_14 : decode cX2_init 14 = .ok (.iload_n 1, 1) := by decide +kernel
theorem dX2_init_15 : decode cX2_init 15 = .ok (.aload_n 0, 1) := by decide +kernel
theorem dX2_init_16 : decode cX2_init 16 = .ok (.getfield 11, 3) := by decide +kernel
theorem dX2_init_19 : decode cX2_init 19 = .ok (.arraylength, 1) := by decide +kernel
theorem dX2_init_20 : decode cX2_init 20 = .ok (.if_icmp .ge 22, 3) := by decide +kernel
theorem dX2_init_23 : decode cX2_init 23 = .ok (.aload_n 0, 1) := by decide +kernel
theorem dX2_init_24 : decode cX2_init 24 = .ok (.getfield 11, 3) := by decide +kernel
theorem dX2_init_27 : decode cX2_init 27 = .ok (.iload_n 1, 1) := by decide +kernel
theorem dX2_init_28 : decode cX2_init 28 = .ok (.new 9, 3) := by decide +kernel
theorem dX2_init_31 : decode cX2_init 31 = .ok (.dup, 1) := by decide +kernel
theorem dX2_init_32 : decode cX2_init 32 = .ok (.invokespecial 17, 3) := by decide +kernel
theorem dX2_init_35 : decode cX2_init 35 = .ok (.aastore, 1) := by decide +kernel
theorem dX2_init_36 : decode cX2_init 36 = .ok (.iinc 1 1, 3) := by decide +kernel
theorem dX2_init_39 : decode cX2_init 39 = .ok (.goto (-25), 3) := by decide +kernel
theorem dX2_init_42 : decode cX2_init 42 = .ok (.return_, 1) := by decide +kernel
theorem dX2_size_0 : decode cX2_size 0 = .ok (.aload_n 0, 1) := by decide +kernel
theorem dX2_size_1 : decode cX2_size 1 = .ok (.getfield 18, 3) := by decide +kernel
theorem dX2_size_4 : decode cX2_size 4 = .ok (.ireturn, 1) := by decide +kernel
theorem dX2_keep_0 : decode cX2_keep 0 = .ok (.aload_n 0, 1) := by decide +kernel
theorem dX2_keep_1 : decode cX2_keep 1 = .ok (.aload_n 0, 1) := by decide +kernel
theorem dX2_keep_2 : decode cX2_keep 2 = .ok (.getfield 18, 3) := by decide +kernel
theorem dX2_keep_5 : decode cX2_keep 5 = .ok (.invokevirtual 22, 3) := by decide +kernel
theorem dX2_keep_8 : decode cX2_keep 8 = .ok (.astore_n 2, 1) := by decide +kernel
theorem dX2_keep_9 : decode cX2_keep 9 = .ok (.aload_n 2, 1) := by decide +kernel
theorem dX2_keep_10 : decode cX2_keep 10 = .ok (.ifnull 8, 3) := by decide +kernel
theorem dX2_keep_13 : decode cX2_keep 13 = .ok (.aload_n 2, 1) := by decide +kernel
theorem dX2_keep_14 : decode cX2_keep 14 = .ok (.aload_n 1, 1) := by decide +kernel
theorem dX2_keep_15 : decode cX2_keep 15 = .ok (.invokevirtual 26, 3) := by decide +kernel
theorem dX2_keep_18 : decode cX2_keep 18 = .ok (.aload_n 0, 1) := by decide +kernel
theorem dX2_keep_19 : decode cX2_keep 19 = .ok (.getfield 18, 3) := by decide +kernel
theorem dX2_keep_22 : decode cX2_keep 22 = .ok (.iconst 4, 1) := by decide +kernel
theorem dX2_keep_23 : decode cX2_keep 23 = .ok (.if_icmp .ge 16, 3) := by decide +kernel
theorem dX2_keep_26 : decode cX2_keep 26 = .ok (.aload_n 0, 1) := by decide +kernel
theorem dX2_keep_27 : decode cX2_keep 27 = .ok (.dup, 1) := by decide +kernel
theorem dX2_keep_28 : decode cX2_keep 28 = .ok (.getfield 18, 3) := by decide +kernel
theorem dX2_keep_31 : decode cX2_keep 31 = .ok (.iconst 1, 1) := by decide +kernel
theorem dX2_keep_32 : decode cX2_keep 32 = .ok (.iadd, 1) := by decide +kernel
theorem dX2_keep_33 : decode cX2_keep 33 = .ok (.putfield 18, 3) := by decide +kernel
theorem dX2_keep_36 : decode cX2_keep 36 = .ok (.goto 15, 3) := by decide +kernel
theorem dX2_keep_39 : decode cX2_keep 39 = .ok (.aload_n 0, 1) := by decide +kernel
theorem dX2_keep_40 : decode cX2_keep 40 = .ok (.aload_n 0, 1) := by decide +kernel
theorem dX2_keep_41 : decode cX2_keep 41 = .ok (.getfield 30, 3) := by decide +kernel
theorem dX2_keep_44 : decode cX2_keep 44 = .ok (.iconst 1, 1) := by decide +kernel
theorem dX2_keep_45 : decode cX2_keep 45 = .ok (.iadd, 1) := by decide +kernel
theorem dX2_keep_46 : decode cX2_keep 46 = .ok (.iconst 4, 1) := by decide +kernel
theorem dX2_keep_47 : decode cX2_keep 47 = .ok (.irem, 1) := by decide +kernel
theorem dX2_keep_48 : decode cX2_keep 48 = .ok (.putfield 30, 3) := by decide +kernel
theorem dX2_keep_51 : decode cX2_keep 51 = .ok (.return_, 1) := by decide +kernel
theorem dX2_restore_0 : decode cX2_restore 0 = .ok (.aload_n 0, 1) := by decide +kernel
theorem dX2_restore_1 : decode cX2_restore 1 = .ok (.getfield 18, 3) := by decide +kernel
theorem dX2_restore_4 : decode cX2_restore 4 = .ok (.ifCond .le 31, 3) := by decide +kernel
theorem dX2_restore_7 : decode cX2_restore 7 = .ok (.aload_n 0, 1) := by decide +kernel
theorem dX2_restore_8 : decode cX2_restore 8 = .ok (.dup, 1) := by decide +kernel
theorem dX2_restore_9 : decode cX2_restore 9 = .ok (.getfield 18, 3) := by decide +kernel
theorem dX2_restore_12 : decode cX2_restore 12 = .ok (.iconst 1, 1) := by decide +kernel
theorem dX2_restore_13 : decode cX2_restore 13 = .ok (.isub, 1) := by decide +kernel
theorem dX2_restore_14 : decode cX2_restore 14 = .ok (.putfield 18, 3) := by decide +kernel
theorem dX2_restore_17 : decode cX2_restore 17 = .ok (.aload_n 0, 1) := by decide +kernel
theorem dX2_restore_18 : decode cX2_restore 18 = .ok (.aload_n 0, 1) := by decide +kernel
theorem dX2_restore_19 : decode cX2_restore 19 = .ok (.getfield 18, 3) := by decide +kernel
theorem dX2_restore_22 : decode cX2_restore 22 = .ok (.invokevirtual 22, 3) := by decide +kernel
theorem dX2_restore_25 : decode cX2_restore 25 = .ok (.astore_n 2, 1) := by decide +kernel
theorem dX2_restore_26 : decode cX2_restore 26 = .ok (.aload_n 2, 1) := by decide +kernel
theorem dX2_restore_27 : decode cX2_restore 27 = .ok (.ifnull 8, 3) := by decide +kernel
theorem dX2_restore_30 : decode cX2_restore 30 = .ok (.aload_n 1, 1) := by decide +kernel
theorem dX2_restore_31 : decode cX2_restore 31 = .ok (.aload_n 2, 1) := by decide +kernel
theorem dX2_restore_32 : decode cX2_restore 32 = .ok (.invokevirtual 26, 3) := by decide +kernel
theorem dX2_restore_35 : decode cX2_restore 35 = .ok (.return_, 1) := by decide +kernel
theorem dX2_placeOf_0 : decode cX2_placeOf 0 = .ok (.aload_n 0, 1) := by decide +kernel
theorem dX2_placeOf_1 : decode cX2_placeOf 1 = .ok (.getfield 30, 3) := by decide +kernel
theorem dX2_placeOf_4 : decode cX2_placeOf 4 = .ok (.iload_n 1, 1) := by decide +kernel
theorem dX2_placeOf_5 : decode cX2_placeOf 5 = .ok (.iadd, 1) := by decide +kernel
theorem dX2_placeOf_6 : decode cX2_placeOf 6 = .ok (.iconst 4, 1) := by decide +kernel
theorem dX2_placeOf_7 : decode cX2_placeOf 7 = .ok (.irem, 1) := by decide +kernel
theorem dX2_placeOf_8 : decode cX2_placeOf 8 = .ok (.istore_n 2, 1) := by decide +kernel
theorem dX2_placeOf_9 : decode cX2_placeOf 9 = .ok (.iload_n 2, 1) := by decide +kernel
theorem dX2_placeOf_10 : decode cX2_placeOf 10 = .ok (.ifCond .lt 21, 3) := by decide +kernel
theorem dX2_placeOf_13 : decode cX2_placeOf 13 = .ok (.iload_n 2, 1) := by decide +kernel
theorem dX2_placeOf_14 : decode cX2_placeOf 14 = .ok (.aload_n 0, 1) := by decide +kernel
theorem dX2_placeOf_15 : decode cX2_placeOf 15 = .ok (.getfield 11, 3) := by decide +kernel
theorem dX2_placeOf_18 : decode cX2_placeOf 18 = .ok (.arraylength, 1) := by decide +kernel
theorem dX2_placeOf_19 : decode cX2_placeOf 19 = .ok (.if_icmp .ge 12, 3) := by decide +kernel
theorem dX2_placeOf_22 : decode cX2_placeOf 22 = .ok (.aload_n 0, 1) := by decide +kernel
theorem dX2_placeOf_23 : decode cX2_placeOf 23 = .ok (.getfield 11, 3) := by decide +kernel
theorem dX2_placeOf_26 : decode cX2_placeOf 26 = .ok (.iload_n 2, 1) := by decide +kernel
theorem dX2_placeOf_27 : decode cX2_placeOf 27 = .ok (.aaload, 1) := by decide +kernel
theorem dX2_placeOf_28 : decode cX2_placeOf 28 = .ok (.goto 4, 3) := by decide +kernel
theorem dX2_placeOf_31 : decode cX2_placeOf 31 = .ok (.aconst_null, 1) := by decide +kernel
theorem dX2_placeOf_32 : decode cX2_placeOf 32 = .ok (.areturn, 1) := by decide +kernel
theorem dX3_init_0 : decode cX3_init 0 = .ok (.aload_n 0, 1) := by decide +kernel
theorem dX3_init_1 : decode cX3_init 1 = .ok (.invokespecial 3, 3) := by decide +kernel
theorem dX3_init_4 : decode cX3_init 4 = .ok (.aload_n 0, 1) := by decide +kernel
theorem dX3_init_5 : decode cX3_init 5 = .ok (.new 9, 3) := by decide +kernel
theorem dX3_init_8 : decode cX3_init 8 = .ok (.dup, 1) := by decide +kernel
theorem dX3_init_9 : decode cX3_init 9 = .ok (.bipush 60, 2) := by decide +kernel
theorem dX3_init_11 : decode cX3_init 11 = .ok (.invokespecial 11, 3) := by decide +kernel
theorem dX3_init_14 : decode cX3_init 14 = .ok (.putfield 14, 3) := by decide +kernel
theorem dX3_init_17 : decode cX3_init 17 = .ok (.aload_n 0, 1) := by decide +kernel
theorem dX3_init_18 : decode cX3_init 18 = .ok (.new 9, 3) := by decide +kernel
theorem dX3_init_21 : decode cX3_init 21 = .ok (.dup, 1) := by decide +kernel
theorem dX3_init_22 : decode cX3_init 22 = .ok (.bipush 60, 2) := by decide +kernel
theorem dX3_init_24 : decode cX3_init 24 = .ok (.invokespecial 11, 3) := by decide +kernel
theorem dX3_init_27 : decode cX3_init 27 = .ok (.putfield 20, 3) := by decide +kernel
theorem dX3_init_30 : decode cX3_init 30 = .ok (.aload_n 0, 1) := by decide +kernel
theorem dX3_init_31 : decode cX3_init 31 = .ok (.new 9, 3) := by decide +kernel
theorem dX3_init_34 : decode cX3_init 34 = .ok (.dup, 1) := by decide +kernel
theorem dX3_init_35 : decode cX3_init 35 = .ok (.bipush 60, 2) := by decide +kernel
theorem dX3_init_37 : decode cX3_init 37 = .ok (.invokespecial 11, 3) := by decide +kernel
theorem dX3_init_40 : decode cX3_init 40 = .ok (.putfield 23, 3) := by decide +kernel
theorem dX3_init_43 : decode cX3_init 43 = .ok (.return_, 1) := by decide +kernel
theorem dX3_size_0 : decode cX3_size 0 = .ok (.aload_n 0, 1) := by decide +kernel
theorem dX3_size_1 : decode cX3_size 1 = .ok (.getfield 26, 3) := by decide +kernel
theorem dX3_size_4 : decode cX3_size 4 = .ok (.ireturn, 1) := by decide +kernel
theorem dX3_empty_0 : decode cX3_empty 0 = .ok (.aload_n 0, 1) := by decide +kernel
theorem dX3_empty_1 : decode cX3_empty 1 = .ok (.iconst 0, 1) := by decide +kernel
theorem dX3_empty_2 : decode cX3_empty 2 = .ok (.putfield 30, 3) := by decide +kernel
theorem dX3_empty_5 : decode cX3_empty 5 = .ok (.aload_n 0, 1) := by decide +kernel
theorem dX3_empty_6 : decode cX3_empty 6 = .ok (.iconst 0, 1) := by decide +kernel
theorem dX3_empty_7 : decode cX3_empty 7 = .ok (.putfield 26, 3) := by decide +kernel
theorem dX3_empty_10 : decode cX3_empty 10 = .ok (.return_, 1) := by decide +kernel
theorem dX3_note_0 : decode cX3_note 0 = .ok (.aload_n 0, 1) := by decide +kernel
theorem dX3_note_1 : decode cX3_note 1 = .ok (.aload_n 0, 1) := by decide +kernel
theorem dX3_note_2 : decode cX3_note 2 = .ok (.getfield 26, 3) := by decide +kernel
theorem dX3_note_5 : decode cX3_note 5 = .ok (.invokevirtual 33, 3) := by decide +kernel
theorem dX3_note_8 : decode cX3_note 8 = .ok (.istore 4, 2) := by decide +kernel
theorem dX3_note_10 : decode cX3_note 10 = .ok (.aload_n 0, 1) := by decide +kernel
theorem dX3_note_11 : decode cX3_note 11 = .ok (.getfield 26, 3) := by decide +kernel
theorem dX3_note_14 : decode cX3_note 14 = .ok (.bipush 60, 2) := by decide +kernel
theorem dX3_note_16 : decode cX3_note 16 = .ok (.if_icmp .ge 16, 3) := by decide +kernel
theorem dX3_note_19 : decode cX3_note 19 = .ok (.aload_n 0, 1) := by decide +kernel
theorem dX3_note_20 : decode cX3_note 20 = .ok (.dup, 1) := by decide +kernel
theorem dX3_note_21 : decode cX3_note 21 = .ok (.getfield 26, 3) := by decide +kernel
theorem dX3_note_24 : decode cX3_note 24 = .ok (.iconst 1, 1) := by decide +kernel
theorem dX3_note_25 : decode cX3_note 25 = .ok (.iadd, 1) := by decide +kernel
theorem dX3_note_26 : decode cX3_note 26 = .ok (.putfield 26, 3) := by decide +kernel
theorem dX3_note_29 : decode cX3_note 29 = .ok (.goto 12, 3) := by decide +kernel
theorem dX3_note_32 : decode cX3_note 32 = .ok (.aload_n 0, 1) := by decide +kernel
theorem dX3_note_33 : decode cX3_note 33 = .ok (.aload_n 0, 1) := by decide +kernel
theorem dX3_note_34 : decode cX3_note 34 = .ok (.iconst 1, 1) := by decide +kernel
theorem dX3_note_35 : decode cX3_note 35 = .ok (.invokevirtual 33, 3) := by decide +kernel
theorem dX3_note_38 : decode cX3_note 38 = .ok (.putfield 30, 3) := by decide +kernel
theorem dX3_note_41 : decode cX3_note 41 = .ok (.aload_n 0, 1) := by decide +kernel
theorem dX3_note_42 : decode cX3_note 42 = .ok (.getfield 14, 3) := by decide +kernel
theorem dX3_note_45 : decode cX3_note 45 = .ok (.iload 4, 2) := by decide +kernel
theorem dX3_note_47 : decode cX3_note 47 = .ok (.iload_n 1, 1) := by decide +kernel
theorem dX3_note_48 : decode cX3_note 48 = .ok (.invokevirtual 37, 3) := by decide +kernel
theorem dX3_note_51 : decode cX3_note 51 = .ok (.aload_n 0, 1) := by decide +kernel
theorem dX3_note_52 : decode cX3_note 52 = .ok (.getfield 20, 3) := by decide +kernel
theorem dX3_note_55 : decode cX3_note 55 = .ok (.iload 4, 2) := by decide +kernel
theorem dX3_note_57 : decode cX3_note 57 = .ok (.iload_n 2, 1) := by decide +kernel
theorem dX3_note_58 : decode cX3_note 58 = .ok (.invokevirtual 37, 3) := by decide +kernel
theorem dX3_note_61 : decode cX3_note 61 = .ok (.aload_n 0, 1) := by decide +kernel
theorem dX3_note_62 : decode cX3_note 62 = .ok (.getfield 23, 3) := by decide +kernel
theorem dX3_note_65 : decode cX3_note 65 = .ok (.iload 4, 2) := by decide +kernel
theorem dX3_note_67 : decode cX3_note 67 = .ok (.iload_n 3, 1) := by decide +kernel
theorem dX3_note_68 : decode cX3_note 68 = .ok (.invokevirtual 37, 3) := by decide +kernel
theorem dX3_note_71 : decode cX3_note 71 = .ok (.return_, 1) := by decide +kernel
theorem dX3_about_0 : decode cX3_about 0 = .ok (.aload_n 0, 1) := by decide +kernel
theorem dX3_about_1 : decode cX3_about 1 = .ok (.iload_n 1, 1) := by decide +kernel
theorem dX3_about_2 : decode cX3_about 2 = .ok (.invokevirtual 33, 3) := by decide +kernel
theorem dX3_about_5 : decode cX3_about 5 = .ok (.istore_n 3, 1) := by decide +kernel
theorem dX3_about_6 : decode cX3_about 6 = .ok (.iload_n 2, 1) := by decide +kernel
theorem dX3_about_7 : decode cX3_about 7 = .ok (.lookupswitch 43 #[(0, 25), (1, 34)], 25) := by decide +kernel
theorem dX3_about_32 : decode cX3_about 32 = .ok (.aload_n 0, 1) := by decide +kernel
theorem dX3_about_33 : decode cX3_about 33 = .ok (.getfield 14, 3) := by decide +kernel
theorem dX3_about_36 : decode cX3_about 36 = .ok (.iload_n 3, 1) := by decide +kernel
theorem dX3_about_37 : decode cX3_about 37 = .ok (.invokevirtual 41, 3) := by decide +kernel
theorem dX3_about_40 : decode cX3_about 40 = .ok (.ireturn, 1) := by decide +kernel
theorem dX3_about_41 : decode cX3_about 41 = .ok (.aload_n 0, 1) := by decide +kernel
theorem dX3_about_42 : decode cX3_about 42 = .ok (.getfield 20, 3) := by decide +kernel
theorem dX3_about_45 : decode cX3_about 45 = .ok (.iload_n 3, 1) := by decide +kernel
theorem dX3_about_46 : decode cX3_about 46 = .ok (.invokevirtual 41, 3) := by decide +kernel
theorem dX3_about_49 : decode cX3_about 49 = .ok (.ireturn, 1) := by decide +kernel
theorem dX3_about_50 : decode cX3_about 50 = .ok (.aload_n 0, 1) := by decide +kernel
theorem dX3_about_51 : decode cX3_about 51 = .ok (.getfield 23, 3) := by decide +kernel
theorem dX3_about_54 : decode cX3_about 54 = .ok (.iload_n 3, 1) := by decide +kernel
theorem dX3_about_55 : decode cX3_about 55 = .ok (.invokevirtual 41, 3) := by decide +kernel
theorem dX3_about_58 : decode cX3_about 58 = .ok (.ireturn, 1) := by decide +kernel
theorem dX3_copy_0 : decode cX3_copy 0 = .ok (.aload_n 0, 1) := by decide +kernel
theorem dX3_copy_1 : decode cX3_copy 1 = .ok (.getfield 14, 3) := by decide +kernel
theorem dX3_copy_4 : decode cX3_copy 4 = .ok (.aload_n 1, 1) := by decide +kernel
theorem dX3_copy_5 : decode cX3_copy 5 = .ok (.getfield 14, 3) := by decide +kernel
theorem dX3_copy_8 : decode cX3_copy 8 = .ok (.invokevirtual 44, 3) := by decide +kernel
theorem dX3_copy_11 : decode cX3_copy 11 = .ok (.aload_n 0, 1) := by decide +kernel
theorem dX3_copy_12 : decode cX3_copy 12 = .ok (.getfield 20, 3) := by decide +kernel
theorem dX3_copy_15 : decode cX3_copy 15 = .ok (.aload_n 1, 1) := by decide +kernel
theorem dX3_copy_16 : decode cX3_copy 16 = .ok (.getfield 20, 3) := by decide +kernel
theorem dX3_copy_19 : decode cX3_copy 19 = .ok (.invokevirtual 44, 3) := by decide +kernel
theorem dX3_copy_22 : decode cX3_copy 22 = .ok (.aload_n 0, 1) := by decide +kernel
theorem dX3_copy_23 : decode cX3_copy 23 = .ok (.getfield 23, 3) := by decide +kernel
theorem dX3_copy_26 : decode cX3_copy 26 = .ok (.aload_n 1, 1) := by decide +kernel
theorem dX3_copy_27 : decode cX3_copy 27 = .ok (.getfield 23, 3) := by decide +kernel
theorem dX3_copy_30 : decode cX3_copy 30 = .ok (.invokevirtual 44, 3) := by decide +kernel
theorem dX3_copy_33 : decode cX3_copy 33 = .ok (.aload_n 0, 1) := by decide +kernel
theorem dX3_copy_34 : decode cX3_copy 34 = .ok (.aload_n 1, 1) := by decide +kernel
theorem dX3_copy_35 : decode cX3_copy 35 = .ok (.getfield 30, 3) := by decide +kernel
theorem dX3_copy_38 : decode cX3_copy 38 = .ok (.putfield 30, 3) := by decide +kernel
theorem dX3_copy_41 : decode cX3_copy 41 = .ok (.aload_n 0, 1) := by decide +kernel
theorem dX3_copy_42 : decode cX3_copy 42 = .ok (.aload_n 1, 1) := by decide +kernel
theorem dX3_copy_43 : decode cX3_copy 43 = .ok (.getfield 26, 3) := by decide +kernel
theorem dX3_copy_46 : decode cX3_copy 46 = .ok (.putfield 26, 3) := by decide +kernel
theorem dX3_copy_49 : decode cX3_copy 49 = .ok (.return_, 1) := by decide +kernel
theorem dX3_placeOf_0 : decode cX3_placeOf 0 = .ok (.aload_n 0, 1) := by decide +kernel
theorem dX3_placeOf_1 : decode cX3_placeOf 1 = .ok (.getfield 30, 3) := by decide +kernel
theorem dX3_placeOf_4 : decode cX3_placeOf 4 = .ok (.iload_n 1, 1) := by decide +kernel
theorem dX3_placeOf_5 : decode cX3_placeOf 5 = .ok (.iadd, 1) := by decide +kernel
theorem dX3_placeOf_6 : decode cX3_placeOf 6 = .ok (.bipush 60, 2) := by decide +kernel
theorem dX3_placeOf_8 : decode cX3_placeOf 8 = .ok (.irem, 1) := by decide +kernel
theorem dX3_placeOf_9 : decode cX3_placeOf 9 = .ok (.ireturn, 1) := by decide +kernel
theorem dX4_init_0 : decode cX4_init 0 = .ok (.aload_n 0, 1) := by decide +kernel
theorem dX4_init_1 : decode cX4_init 1 = .ok (.invokespecial 1, 3) := by decide +kernel
theorem dX4_init_4 : decode cX4_init 4 = .ok (.aload_n 0, 1) := by decide +kernel
theorem dX4_init_5 : decode cX4_init 5 = .ok (.iload_n 1, 1) := by decide +kernel
theorem dX4_init_6 : decode cX4_init 6 = .ok (.iconst 0, 1) := by decide +kernel
theorem dX4_init_7 : decode cX4_init 7 = .ok (.invokestatic 7, 3) := by decide +kernel
theorem dX4_init_10 : decode cX4_init 10 = .ok (.newarray .int, 2) := by decide +kernel
theorem dX4_init_12 : decode cX4_init 12 = .ok (.putfield 13, 3) := by decide +kernel
theorem dX4_init_15 : decode cX4_init 15 = .ok (.return_, 1) := by decide +kernel
theorem dX4_at_0 : decode cX4_at 0 = .ok (.iload_n 1, 1) := by decide +kernel
theorem dX4_at_1 : decode cX4_at 1 = .ok (.ifCond .lt 21, 3) := by decide +kernel
theorem dX4_at_4 : decode cX4_at 4 = .ok (.iload_n 1, 1) := by decide +kernel
theorem dX4_at_5 : decode cX4_at 5 = .ok (.aload_n 0, 1) := by decide +kernel
theorem dX4_at_6 : decode cX4_at 6 = .ok (.getfield 13, 3) := by decide +kernel
theorem dX4_at_9 : decode cX4_at 9 = .ok (.arraylength, 1) := by decide +kernel
theorem dX4_at_10 : decode cX4_at 10 = .ok (.if_icmp .ge 12, 3) := by decide +kernel
theorem dX4_at_13 : decode cX4_at 13 = .ok (.aload_n 0, 1) := by decide +kernel
theorem dX4_at_14 : decode cX4_at 14 = .ok (.getfield 13, 3) := by decide +kernel
theorem dX4_at_17 : decode cX4_at 17 = .ok (.iload_n 1, 1) := by decide +kernel
theorem dX4_at_18 : decode cX4_at 18 = .ok (.iaload, 1) := by decide +kernel
theorem dX4_at_19 : decode cX4_at 19 = .ok (.goto 4, 3) := by decide +kernel
theorem dX4_at_22 : decode cX4_at 22 = .ok (.iconst 0, 1) := by decide +kernel
theorem dX4_at_23 : decode cX4_at 23 = .ok (.ireturn, 1) := by decide +kernel
theorem dX4_put_0 : decode cX4_put 0 = .ok (.iload_n 1, 1) := by decide +kernel
theorem dX4_put_1 : decode cX4_put 1 = .ok (.ifCond .lt 19, 3) := by decide +kernel
theorem dX4_put_4 : decode cX4_put 4 = .ok (.iload_n 1, 1) := by decide +kernel
theorem dX4_put_5 : decode cX4_put 5 = .ok (.aload_n 0, 1) := by decide +kernel
theorem dX4_put_6 : decode cX4_put 6 = .ok (.getfield 13, 3) := by decide +kernel
theorem dX4_put_9 : decode cX4_put 9 = .ok (.arraylength, 1) := by decide +kernel
theorem dX4_put_10 : decode cX4_put 10 = .ok (.if_icmp .ge 10, 3) := by decide +kernel
theorem dX4_put_13 : decode cX4_put 13 = .ok (.aload_n 0, 1) := by decide +kernel
theorem dX4_put_14 : decode cX4_put 14 = .ok (.getfield 13, 3) := by decide +kernel
theorem dX4_put_17 : decode cX4_put 17 = .ok (.iload_n 1, 1) := by decide +kernel
theorem dX4_put_18 : decode cX4_put 18 = .ok (.iload_n 2, 1) := by decide +kernel
theorem dX4_put_19 : decode cX4_put 19 = .ok (.iastore, 1) := by decide +kernel
theorem dX4_put_20 : decode cX4_put 20 = .ok (.return_, 1) := by decide +kernel
theorem dX4_raise_0 : decode cX4_raise 0 = .ok (.iload_n 1, 1) := by decide +kernel
theorem dX4_raise_1 : decode cX4_raise 1 = .ok (.ifCond .lt 22, 3) := by decide +kernel
theorem dX4_raise_4 : decode cX4_raise 4 = .ok (.iload_n 1, 1) := by decide +kernel
theorem dX4_raise_5 : decode cX4_raise 5 = .ok (.aload_n 0, 1) := by decide +kernel
theorem dX4_raise_6 : decode cX4_raise 6 = .ok (.getfield 13, 3) := by decide +kernel
theorem dX4_raise_9 : decode cX4_raise 9 = .ok (.arraylength, 1) := by decide +kernel
theorem dX4_raise_10 : decode cX4_raise 10 = .ok (.if_icmp .ge 13, 3) := by decide +kernel
theorem dX4_raise_13 : decode cX4_raise 13 = .ok (.aload_n 0, 1) := by decide +kernel
theorem dX4_raise_14 : decode cX4_raise 14 = .ok (.getfield 13, 3) := by decide +kernel
theorem dX4_raise_17 : decode cX4_raise 17 = .ok (.iload_n 1, 1) := by decide +kernel
theorem dX4_raise_18 : decode cX4_raise 18 = .ok (.dup2, 1) := by decide +kernel
theorem dX4_raise_19 : decode cX4_raise 19 = .ok (.iaload, 1) := by decide +kernel
theorem dX4_raise_20 : decode cX4_raise 20 = .ok (.iload_n 2, 1) := by decide +kernel
theorem dX4_raise_21 : decode cX4_raise 21 = .ok (.iadd, 1) := by decide +kernel
theorem dX4_raise_22 : decode cX4_raise 22 = .ok (.iastore, 1) := by decide +kernel
theorem dX4_raise_23 : decode cX4_raise 23 = .ok (.return_, 1) := by decide +kernel
theorem dX4_fill_0 : decode cX4_fill 0 = .ok (.iconst 0, 1) := by decide +kernel
theorem dX4_fill_1 : decode cX4_fill 1 = .ok (.istore_n 2, 1) := by decide +kernel
theorem dX4_fill_2 : decode cX4_fill 2 = .ok (.iload_n 2, 1) := by decide +kernel
theorem dX4_fill_3 : decode cX4_fill 3 = .ok (.aload_n 0, 1) := by decide +kernel
theorem dX4_fill_4 : decode cX4_fill 4 = .ok (.getfield 13, 3) := by decide +kernel
theorem dX4_fill_7 : decode cX4_fill 7 = .ok (.arraylength, 1) := by decide +kernel
theorem dX4_fill_8 : decode cX4_fill 8 = .ok (.if_icmp .ge 16, 3) := by decide +kernel
theorem dX4_fill_11 : decode cX4_fill 11 = .ok (.aload_n 0, 1) := by decide +kernel
theorem dX4_fill_12 : decode cX4_fill 12 = .ok (.getfield 13, 3) := by decide +kernel
theorem dX4_fill_15 : decode cX4_fill 15 = .ok (.iload_n 2, 1) := by decide +kernel
theorem dX4_fill_16 : decode cX4_fill 16 = .ok (.iload_n 1, 1) := by decide +kernel
theorem dX4_fill_17 : decode cX4_fill 17 = .ok (.iastore, 1) := by decide +kernel
theorem dX4_fill_18 : decode cX4_fill 18 = .ok (.iinc 2 1, 3) := by decide +kernel
theorem dX4_fill_21 : decode cX4_fill 21 = .ok (.goto (-19), 3) := by decide +kernel
theorem dX4_fill_24 : decode cX4_fill 24 = .ok (.return_, 1) := by decide +kernel
theorem dX4_copy_0 : decode cX4_copy 0 = .ok (.iconst 0, 1) := by decide +kernel
theorem dX4_copy_1 : decode cX4_copy 1 = .ok (.istore_n 2, 1) := by decide +kernel
theorem dX4_copy_2 : decode cX4_copy 2 = .ok (.iload_n 2, 1) := by decide +kernel
theorem dX4_copy_3 : decode cX4_copy 3 = .ok (.aload_n 0, 1) := by decide +kernel
theorem dX4_copy_4 : decode cX4_copy 4 = .ok (.getfield 13, 3) := by decide +kernel
theorem dX4_copy_7 : decode cX4_copy 7 = .ok (.arraylength, 1) := by decide +kernel
theorem dX4_copy_8 : decode cX4_copy 8 = .ok (.if_icmp .ge 20, 3) := by decide +kernel
theorem dX4_copy_11 : decode cX4_copy 11 = .ok (.aload_n 0, 1) := by decide +kernel
theorem dX4_copy_12 : decode cX4_copy 12 = .ok (.getfield 13, 3) := by decide +kernel
theorem dX4_copy_15 : decode cX4_copy 15 = .ok (.iload_n 2, 1) := by decide +kernel
theorem dX4_copy_16 : decode cX4_copy 16 = .ok (.aload_n 1, 1) := by decide +kernel
theorem dX4_copy_17 : decode cX4_copy 17 = .ok (.iload_n 2, 1) := by decide +kernel
theorem dX4_copy_18 : decode cX4_copy 18 = .ok (.invokevirtual 19, 3) := by decide +kernel
theorem dX4_copy_21 : decode cX4_copy 21 = .ok (.iastore, 1) := by decide +kernel
theorem dX4_copy_22 : decode cX4_copy 22 = .ok (.iinc 2 1, 3) := by decide +kernel
theorem dX4_copy_25 : decode cX4_copy 25 = .ok (.goto (-23), 3) := by decide +kernel
theorem dX4_copy_28 : decode cX4_copy 28 = .ok (.return_, 1) := by decide +kernel
theorem dX5_init_0 : decode cX5_init 0 = .ok (.aload_n 0, 1) := by decide +kernel
theorem dX5_init_1 : decode cX5_init 1 = .ok (.invokespecial 3, 3) := by decide +kernel
theorem dX5_init_4 : decode cX5_init 4 = .ok (.aload_n 0, 1) := by decide +kernel
theorem dX5_init_5 : decode cX5_init 5 = .ok (.new 9, 3) := by decide +kernel
theorem dX5_init_8 : decode cX5_init 8 = .ok (.dup, 1) := by decide +kernel
theorem dX5_init_9 : decode cX5_init 9 = .ok (.bipush 8, 2) := by decide +kernel
theorem dX5_init_11 : decode cX5_init 11 = .ok (.invokespecial 11, 3) := by decide +kernel
theorem dX5_init_14 : decode cX5_init 14 = .ok (.putfield 14, 3) := by decide +kernel
theorem dX5_init_17 : decode cX5_init 17 = .ok (.aload_n 0, 1) := by decide +kernel
theorem dX5_init_18 : decode cX5_init 18 = .ok (.new 9, 3) := by decide +kernel
theorem dX5_init_21 : decode cX5_init 21 = .ok (.dup, 1) := by decide +kernel
theorem dX5_init_22 : decode cX5_init 22 = .ok (.bipush 8, 2) := by decide +kernel
theorem dX5_init_24 : decode cX5_init 24 = .ok (.invokespecial 11, 3) := by decide +kernel
theorem dX5_init_27 : decode cX5_init 27 = .ok (.putfield 20, 3) := by decide +kernel
theorem dX5_init_30 : decode cX5_init 30 = .ok (.aload_n 0, 1) := by decide +kernel
theorem dX5_init_31 : decode cX5_init 31 = .ok (.new 9, 3) := by decide +kernel
theorem dX5_init_34 : decode cX5_init 34 = .ok (.dup, 1) := by decide +kernel
theorem dX5_init_35 : decode cX5_init 35 = .ok (.bipush 8, 2) := by decide +kernel
theorem dX5_init_37 : decode cX5_init 37 = .ok (.invokespecial 11, 3) := by decide +kernel
theorem dX5_init_40 : decode cX5_init 40 = .ok (.putfield 23, 3) := by decide +kernel
theorem dX5_init_43 : decode cX5_init 43 = .ok (.aload_n 0, 1) := by decide +kernel
theorem dX5_init_44 : decode cX5_init 44 = .ok (.new 9, 3) := by decide +kernel
theorem dX5_init_47 : decode cX5_init 47 = .ok (.dup, 1) := by decide +kernel
theorem dX5_init_48 : decode cX5_init 48 = .ok (.bipush 8, 2) := by decide +kernel
theorem dX5_init_50 : decode cX5_init 50 = .ok (.invokespecial 11, 3) := by decide +kernel
theorem dX5_init_53 : decode cX5_init 53 = .ok (.putfield 26, 3) := by decide +kernel
theorem dX5_init_56 : decode cX5_init 56 = .ok (.aload_n 0, 1) := by decide +kernel
theorem dX5_init_57 : decode cX5_init 57 = .ok (.new 9, 3) := by decide +kernel
theorem dX5_init_60 : decode cX5_init 60 = .ok (.dup, 1) := by decide +kernel
theorem dX5_init_61 : decode cX5_init 61 = .ok (.bipush 8, 2) := by decide +kernel
theorem dX5_init_63 : decode cX5_init 63 = .ok (.invokespecial 11, 3) := by decide +kernel
theorem dX5_init_66 : decode cX5_init 66 = .ok (.putfield 29, 3) := by decide +kernel
theorem dX5_init_69 : decode cX5_init 69 = .ok (.aload_n 0, 1) := by decide +kernel
theorem dX5_init_70 : decode cX5_init 70 = .ok (.new 9, 3) := by decide +kernel
theorem dX5_init_73 : decode cX5_init 73 = .ok (.dup, 1) := by decide +kernel
theorem dX5_init_74 : decode cX5_init 74 = .ok (.bipush 24, 2) := by decide +kernel
theorem dX5_init_76 : decode cX5_init 76 = .ok (.invokespecial 11, 3) := by decide +kernel
theorem dX5_init_79 : decode cX5_init 79 = .ok (.putfield 32, 3) := by decide +kernel
theorem dX5_init_82 : decode cX5_init 82 = .ok (.aload_n 0, 1) := by decide +kernel
theorem dX5_init_83 : decode cX5_init 83 = .ok (.new 35, 3) := by decide +kernel
theorem dX5_init_86 : decode cX5_init 86 = .ok (.dup, 1) := by decide +kernel
theorem dX5_init_87 : decode cX5_init 87 = .ok (.invokespecial 37, 3) := by decide +kernel
theorem dX5_init_90 : decode cX5_init 90 = .ok (.putfield 38, 3) := by decide +kernel
theorem dX5_init_93 : decode cX5_init 93 = .ok (.iconst 0, 1) := by decide +kernel
theorem dX5_init_94 : decode cX5_init 94 = .ok (.istore_n 1, 1) := by decide +kernel
theorem dX5_init_95 : decode cX5_init 95 = .ok (.iload_n 1, 1) := by decide +kernel
theorem dX5_init_96 : decode cX5_init 96 = .ok (.getstatic 42, 3) := by decide +kernel
theorem dX5_init_99 : decode cX5_init 99 = .ok (.arraylength, 1) := by decide +kernel
theorem dX5_init_100 : decode cX5_init 100 = .ok (.if_icmp .ge 22, 3) := by decide +kernel
theorem dX5_init_103 : decode cX5_init 103 = .ok (.aload_n 0, 1) := by decide +kernel
theorem dX5_init_104 : decode cX5_init 104 = .ok (.getfield 14, 3) := by decide +kernel
theorem dX5_init_107 : decode cX5_init 107 = .ok (.iload_n 1, 1) := by decide +kernel
theorem dX5_init_108 : decode cX5_init 108 = .ok (.getstatic 42, 3) := by decide +kernel
theorem dX5_init_111 : decode cX5_init 111 = .ok (.iload_n 1, 1) := by decide +kernel
theorem dX5_init_112 : decode cX5_init 112 = .ok (.iaload, 1) := by decide +kernel
theorem dX5_init_113 : decode cX5_init 113 = .ok (.invokevirtual 46, 3) := by decide +kernel
theorem dX5_init_116 : decode cX5_init 116 = .ok (.iinc 1 1, 3) := by decide +kernel
theorem dX5_init_119 : decode cX5_init 119 = .ok (.goto (-24), 3) := by decide +kernel
theorem dX5_init_122 : decode cX5_init 122 = .ok (.aload_n 0, 1) := by decide +kernel
theorem dX5_init_123 : decode cX5_init 123 = .ok (.iconst 1, 1) := by decide +kernel
theorem dX5_init_124 : decode cX5_init 124 = .ok (.putfield 50, 3) := by decide +kernel
theorem dX5_init_127 : decode cX5_init 127 = .ok (.aload_n 0, 1) := by decide +kernel
theorem dX5_init_128 : decode cX5_init 128 = .ok (.iconst 0, 1) := by decide +kernel
theorem dX5_init_129 : decode cX5_init 129 = .ok (.putfield 54, 3) := by decide +kernel
theorem dX5_init_132 : decode cX5_init 132 = .ok (.aload_n 0, 1) := by decide +kernel
theorem dX5_init_133 : decode cX5_init 133 = .ok (.iconst 4, 1) := by decide +kernel
theorem dX5_init_134 : decode cX5_init 134 = .ok (.invokevirtual 58, 3) := by decide +kernel
theorem dX5_init_137 : decode cX5_init 137 = .ok (.return_, 1) := by decide +kernel
theorem dX5_restart_0 : decode cX5_restart 0 = .ok (.aload_n 0, 1) := by decide +kernel
theorem dX5_restart_1 : decode cX5_restart 1 = .ok (.iload_n 1, 1) := by decide +kernel
theorem dX5_restart_2 : decode cX5_restart 2 = .ok (.putfield 61, 3) := by decide +kernel
theorem dX5_restart_5 : decode cX5_restart 5 = .ok (.aload_n 0, 1) := by decide +kernel
theorem dX5_restart_6 : decode cX5_restart 6 = .ok (.getfield 20, 3) := by decide +kernel
theorem dX5_restart_9 : decode cX5_restart 9 = .ok (.iconst 0, 1) := by decide +kernel
theorem dX5_restart_10 : decode cX5_restart 10 = .ok (.invokevirtual 64, 3) := by decide +kernel
theorem dX5_restart_13 : decode cX5_restart 13 = .ok (.aload_n 0, 1) := by decide +kernel
theorem dX5_restart_14 : decode cX5_restart 14 = .ok (.getfield 23, 3) := by decide +kernel
theorem dX5_restart_17 : decode cX5_restart 17 = .ok (.ldc 67, 2) := by decide +kernel
theorem dX5_restart_19 : decode cX5_restart 19 = .ok (.invokevirtual 64, 3) := by decide +kernel
theorem dX5_restart_22 : decode cX5_restart 22 = .ok (.aload_n 0, 1) := by decide +kernel
theorem dX5_restart_23 : decode cX5_restart 23 = .ok (.getfield 26, 3) := by decide +kernel
theorem dX5_restart_26 : decode cX5_restart 26 = .ok (.iconst 0, 1) := by decide +kernel
theorem dX5_restart_27 : decode cX5_restart 27 = .ok (.invokevirtual 64, 3) := by decide +kernel
theorem dX5_restart_30 : decode cX5_restart 30 = .ok (.aload_n 0, 1) := by decide +kernel
theorem dX5_restart_31 : decode cX5_restart 31 = .ok (.getfield 29, 3) := by decide +kernel
theorem dX5_restart_34 : decode cX5_restart 34 = .ok (.iconst 0, 1) := by decide +kernel
theorem dX5_restart_35 : decode cX5_restart 35 = .ok (.invokevirtual 64, 3) := by decide +kernel
theorem dX5_restart_38 : decode cX5_restart 38 = .ok (.aload_n 0, 1) := by decide +kernel
theorem dX5_restart_39 : decode cX5_restart 39 = .ok (.getfield 32, 3) := by decide +kernel
theorem dX5_restart_42 : decode cX5_restart 42 = .ok (.iconst 0, 1) := by decide +kernel
theorem dX5_restart_43 : decode cX5_restart 43 = .ok (.invokevirtual 64, 3) := by decide +kernel
theorem dX5_restart_46 : decode cX5_restart 46 = .ok (.aload_n 0, 1) := by decide +kernel
theorem dX5_restart_47 : decode cX5_restart 47 = .ok (.getfield 38, 3) := by decide +kernel
theorem dX5_restart_50 : decode cX5_restart 50 = .ok (.invokevirtual 68, 3) := by decide +kernel
theorem dX5_restart_53 : decode cX5_restart 53 = .ok (.aload_n 0, 1) := by decide +kernel
theorem dX5_restart_54 : decode cX5_restart 54 = .ok (.iconst 0, 1) := by decide +kernel
theorem dX5_restart_55 : decode cX5_restart 55 = .ok (.putfield 71, 3) := by decide +kernel
theorem dX5_restart_58 : decode cX5_restart 58 = .ok (.aload_n 0, 1) := by decide +kernel
theorem dX5_restart_59 : decode cX5_restart 59 = .ok (.iconst (-1), 1) := by decide +kernel
theorem dX5_restart_60 : decode cX5_restart 60 = .ok (.putfield 74, 3) := by decide +kernel
theorem dX5_restart_63 : decode cX5_restart 63 = .ok (.aload_n 0, 1) := by decide +kernel
theorem dX5_restart_64 : decode cX5_restart 64 = .ok (.iconst 0, 1) := by decide +kernel
theorem dX5_restart_65 : decode cX5_restart 65 = .ok (.putfield 77, 3) := by decide +kernel
theorem dX5_restart_68 : decode cX5_restart 68 = .ok (.aload_n 0, 1) := by decide +kernel
theorem dX5_restart_69 : decode cX5_restart 69 = .ok (.iconst 0, 1) := by decide +kernel
theorem dX5_restart_70 : decode cX5_restart 70 = .ok (.putfield 80, 3) := by decide +kernel
theorem dX5_restart_73 : decode cX5_restart 73 = .ok (.aload_n 0, 1) := by decide +kernel
theorem dX5_restart_74 : decode cX5_restart 74 = .ok (.iconst 0, 1) := by decide +kernel
theorem dX5_restart_75 : decode cX5_restart 75 = .ok (.putfield 83, 3) := by decide +kernel
theorem dX5_restart_78 : decode cX5_restart 78 = .ok (.aload_n 0, 1) := by decide +kernel
theorem dX5_restart_79 : decode cX5_restart 79 = .ok (.iconst 0, 1) := by decide +kernel
theorem dX5_restart_80 : decode cX5_restart 80 = .ok (.putfield 86, 3) := by decide +kernel
theorem dX5_restart_83 : decode cX5_restart 83 = .ok (.aload_n 0, 1) := by decide +kernel
theorem dX5_restart_84 : decode cX5_restart 84 = .ok (.iconst 0, 1) := by decide +kernel
theorem dX5_restart_85 : decode cX5_restart 85 = .ok (.putfield 89, 3) := by decide +kernel
theorem dX5_restart_88 : decode cX5_restart 88 = .ok (.return_, 1) := by decide +kernel
theorem dX5_copy_0 : decode cX5_copy 0 = .ok (.aload_n 0, 1) := by decide +kernel
theorem dX5_copy_1 : decode cX5_copy 1 = .ok (.getfield 14, 3) := by decide +kernel
theorem dX5_copy_4 : decode cX5_copy 4 = .ok (.aload_n 1, 1) := by decide +kernel
theorem dX5_copy_5 : decode cX5_copy 5 = .ok (.getfield 14, 3) := by decide +kernel
theorem dX5_copy_8 : decode cX5_copy 8 = .ok (.invokevirtual 92, 3) := by decide +kernel
theorem dX5_copy_11 : decode cX5_copy 11 = .ok (.aload_n 0, 1) := by decide +kernel
theorem dX5_copy_12 : decode cX5_copy 12 = .ok (.getfield 20, 3) := by decide +kernel
theorem dX5_copy_15 : decode cX5_copy 15 = .ok (.aload_n 1, 1) := by decide +kernel
theorem dX5_copy_16 : decode cX5_copy 16 = .ok (.getfield 20, 3) := by decide +kernel
theorem dX5_copy_19 : decode cX5_copy 19 = .ok (.invokevirtual 92, 3) := by decide +kernel
theorem dX5_copy_22 : decode cX5_copy 22 = .ok (.aload_n 0, 1) := by decide +kernel
theorem dX5_copy_23 : decode cX5_copy 23 = .ok (.getfield 23, 3) := by decide +kernel
theorem dX5_copy_26 : decode cX5_copy 26 = .ok (.aload_n 1, 1) := by decide +kernel
theorem dX5_copy_27 : decode cX5_copy 27 = .ok (.getfield 23, 3) := by decide +kernel
theorem dX5_copy_30 : decode cX5_copy 30 = .ok (.invokevirtual 92, 3) := by decide +kernel
theorem dX5_copy_33 : decode cX5_copy 33 = .ok (.aload_n 0, 1) := by decide +kernel
theorem dX5_copy_34 : decode cX5_copy 34 = .ok (.getfield 26, 3) := by decide +kernel
theorem dX5_copy_37 : decode cX5_copy 37 = .ok (.aload_n 1, 1) := by decide +kernel
theorem dX5_copy_38 : decode cX5_copy 38 = .ok (.getfield 26, 3) := by decide +kernel
theorem dX5_copy_41 : decode cX5_copy 41 = .ok (.invokevirtual 92, 3) := by decide +kernel
theorem dX5_copy_44 : decode cX5_copy 44 = .ok (.aload_n 0, 1) := by decide +kernel
theorem dX5_copy_45 : decode cX5_copy 45 = .ok (.getfield 29, 3) := by decide +kernel
theorem dX5_copy_48 : decode cX5_copy 48 = .ok (.aload_n 1, 1) := by decide +kernel
theorem dX5_copy_49 : decode cX5_copy 49 = .ok (.getfield 29, 3) := by decide +kernel
theorem dX5_copy_52 : decode cX5_copy 52 = .ok (.invokevirtual 92, 3) := by decide +kernel
theorem dX5_copy_55 : decode cX5_copy 55 = .ok (.aload_n 0, 1) := by decide +kernel
theorem dX5_copy_56 : decode cX5_copy 56 = .ok (.getfield 32, 3) := by decide +kernel
theorem dX5_copy_59 : decode cX5_copy 59 = .ok (.aload_n 1, 1) := by decide +kernel
theorem dX5_copy_60 : decode cX5_copy 60 = .ok (.getfield 32, 3) := by decide +kernel
theorem dX5_copy_63 : decode cX5_copy 63 = .ok (.invokevirtual 92, 3) := by decide +kernel
theorem dX5_copy_66 : decode cX5_copy 66 = .ok (.aload_n 0, 1) := by decide +kernel
theorem dX5_copy_67 : decode cX5_copy 67 = .ok (.getfield 38, 3) := by decide +kernel
theorem dX5_copy_70 : decode cX5_copy 70 = .ok (.aload_n 1, 1) := by decide +kernel
theorem dX5_copy_71 : decode cX5_copy 71 = .ok (.getfield 38, 3) := by decide +kernel
theorem dX5_copy_74 : decode cX5_copy 74 = .ok (.invokevirtual 96, 3) := by decide +kernel
theorem dX5_copy_77 : decode cX5_copy 77 = .ok (.aload_n 0, 1) := by decide +kernel
theorem dX5_copy_78 : decode cX5_copy 78 = .ok (.aload_n 1, 1) := by decide +kernel
theorem dX5_copy_79 : decode cX5_copy 79 = .ok (.getfield 61, 3) := by decide +kernel
theorem dX5_copy_82 : decode cX5_copy 82 = .ok (.putfield 61, 3) := by decide +kernel
theorem dX5_copy_85 : decode cX5_copy 85 = .ok (.aload_n 0, 1) := by decide +kernel
theorem dX5_copy_86 : decode cX5_copy 86 = .ok (.aload_n 1, 1) := by decide +kernel
theorem dX5_copy_87 : decode cX5_copy 87 = .ok (.getfield 71, 3) := by decide +kernel
theorem dX5_copy_90 : decode cX5_copy 90 = .ok (.putfield 71, 3) := by decide +kernel
theorem dX5_copy_93 : decode cX5_copy 93 = .ok (.aload_n 0, 1) := by decide +kernel
theorem dX5_copy_94 : decode cX5_copy 94 = .ok (.aload_n 1, 1) := by decide +kernel
theorem dX5_copy_95 : decode cX5_copy 95 = .ok (.getfield 74, 3) := by decide +kernel
theorem dX5_copy_98 : decode cX5_copy 98 = .ok (.putfield 74, 3) := by decide +kernel
theorem dX5_copy_101 : decode cX5_copy 101 = .ok (.aload_n 0, 1) := by decide +kernel
theorem dX5_copy_102 : decode cX5_copy 102 = .ok (.aload_n 1, 1) := by decide +kernel
theorem dX5_copy_103 : decode cX5_copy 103 = .ok (.getfield 77, 3) := by decide +kernel
theorem dX5_copy_106 : decode cX5_copy 106 = .ok (.putfield 77, 3) := by decide +kernel
theorem dX5_copy_109 : decode cX5_copy 109 = .ok (.aload_n 0, 1) := by decide +kernel
theorem dX5_copy_110 : decode cX5_copy 110 = .ok (.aload_n 1, 1) := by decide +kernel
theorem dX5_copy_111 : decode cX5_copy 111 = .ok (.getfield 80, 3) := by decide +kernel
theorem dX5_copy_114 : decode cX5_copy 114 = .ok (.putfield 80, 3) := by decide +kernel
theorem dX5_copy_117 : decode cX5_copy 117 = .ok (.aload_n 0, 1) := by decide +kernel
theorem dX5_copy_118 : decode cX5_copy 118 = .ok (.aload_n 1, 1) := by decide +kernel
theorem dX5_copy_119 : decode cX5_copy 119 = .ok (.getfield 83, 3) := by decide +kernel
theorem dX5_copy_122 : decode cX5_copy 122 = .ok (.putfield 83, 3) := by decide +kernel
theorem dX5_copy_125 : decode cX5_copy 125 = .ok (.aload_n 0, 1) := by decide +kernel
theorem dX5_copy_126 : decode cX5_copy 126 = .ok (.aload_n 1, 1) := by decide +kernel
theorem dX5_copy_127 : decode cX5_copy 127 = .ok (.getfield 86, 3) := by decide +kernel
theorem dX5_copy_130 : decode cX5_copy 130 = .ok (.putfield 86, 3) := by decide +kernel
theorem dX5_copy_133 : decode cX5_copy 133 = .ok (.aload_n 0, 1) := by decide +kernel
theorem dX5_copy_134 : decode cX5_copy 134 = .ok (.aload_n 1, 1) := by decide +kernel
theorem dX5_copy_135 : decode cX5_copy 135 = .ok (.getfield 89, 3) := by decide +kernel
theorem dX5_copy_138 : decode cX5_copy 138 = .ok (.putfield 89, 3) := by decide +kernel
theorem dX5_copy_141 : decode cX5_copy 141 = .ok (.aload_n 0, 1) := by decide +kernel
theorem dX5_copy_142 : decode cX5_copy 142 = .ok (.aload_n 1, 1) := by decide +kernel
theorem dX5_copy_143 : decode cX5_copy 143 = .ok (.getfield 50, 3) := by decide +kernel
theorem dX5_copy_146 : decode cX5_copy 146 = .ok (.putfield 50, 3) := by decide +kernel
theorem dX5_copy_149 : decode cX5_copy 149 = .ok (.aload_n 0, 1) := by decide +kernel
theorem dX5_copy_150 : decode cX5_copy 150 = .ok (.aload_n 1, 1) := by decide +kernel
theorem dX5_copy_151 : decode cX5_copy 151 = .ok (.getfield 54, 3) := by decide +kernel
theorem dX5_copy_154 : decode cX5_copy 154 = .ok (.putfield 54, 3) := by decide +kernel
theorem dX5_copy_157 : decode cX5_copy 157 = .ok (.return_, 1) := by decide +kernel
theorem dX5_settingOrCylinders_0 : decode cX5_settingOrCylinders 0 = .ok (.iload_n 1, 1) := by decide +kernel
theorem dX5_settingOrCylinders_1 : decode cX5_settingOrCylinders 1 = .ok (.bipush 8, 2) := by decide +kernel
theorem dX5_settingOrCylinders_3 : decode cX5_settingOrCylinders 3 = .ok (.if_icmp .ne 10, 3) := by decide +kernel
theorem dX5_settingOrCylinders_6 : decode cX5_settingOrCylinders 6 = .ok (.aload_n 0, 1) := by decide +kernel
theorem dX5_settingOrCylinders_7 : decode cX5_settingOrCylinders 7 = .ok (.getfield 61, 3) := by decide +kernel
theorem dX5_settingOrCylinders_10 : decode cX5_settingOrCylinders 10 = .ok (.goto 11, 3) := by decide +kernel
theorem dX5_settingOrCylinders_13 : decode cX5_settingOrCylinders 13 = .ok (.aload_n 0, 1) := by decide +kernel
theorem dX5_settingOrCylinders_14 : decode cX5_settingOrCylinders 14 = .ok (.getfield 14, 3) := by decide +kernel
theorem dX5_settingOrCylinders_17 : decode cX5_settingOrCylinders 17 = .ok (.iload_n 1, 1) := by decide +kernel
theorem dX5_settingOrCylinders_18 : decode cX5_settingOrCylinders 18 = .ok (.invokevirtual 99, 3) := by decide +kernel
theorem dX5_settingOrCylinders_21 : decode cX5_settingOrCylinders 21 = .ok (.ireturn, 1) := by decide +kernel
theorem dX5_aboutCylinder_0 : decode cX5_aboutCylinder 0 = .ok (.iload_n 2, 1) := by decide +kernel
theorem dX5_aboutCylinder_1 : decode cX5_aboutCylinder 1 = .ok (.tableswitch 64 0 3 #[31, 40, 49, 58], 31) := by decide +kernel
theorem dX5_aboutCylinder_32 : decode cX5_aboutCylinder 32 = .ok (.aload_n 0, 1) := by decide +kernel
theorem dX5_aboutCylinder_33 : decode cX5_aboutCylinder 33 = .ok (.getfield 20, 3) := by decide +kernel
theorem dX5_aboutCylinder_36 : decode cX5_aboutCylinder 36 = .ok (.iload_n 1, 1) := by decide +kernel
theorem dX5_aboutCylinder_37 : decode cX5_aboutCylinder 37 = .ok (.invokevirtual 99, 3) := by decide +kernel
theorem dX5_aboutCylinder_40 : decode cX5_aboutCylinder 40 = .ok (.ireturn, 1) := by decide +kernel
theorem dX5_aboutCylinder_41 : decode cX5_aboutCylinder 41 = .ok (.aload_n 0, 1) := by decide +kernel
theorem dX5_aboutCylinder_42 : decode cX5_aboutCylinder 42 = .ok (.getfield 23, 3) := by decide +kernel
theorem dX5_aboutCylinder_45 : decode cX5_aboutCylinder 45 = .ok (.iload_n 1, 1) := by decide +kernel
theorem dX5_aboutCylinder_46 : decode cX5_aboutCylinder 46 = .ok (.invokevirtual 99, 3) := by decide +kernel
theorem dX5_aboutCylinder_49 : decode cX5_aboutCylinder 49 = .ok (.ireturn, 1) := by decide +kernel
theorem dX5_aboutCylinder_50 : decode cX5_aboutCylinder 50 = .ok (.aload_n 0, 1) := by decide +kernel
theorem dX5_aboutCylinder_51 : decode cX5_aboutCylinder 51 = .ok (.getfield 26, 3) := by decide +kernel
theorem dX5_aboutCylinder_54 : decode cX5_aboutCylinder 54 = .ok (.iload_n 1, 1) := by decide +kernel
theorem dX5_aboutCylinder_55 : decode cX5_aboutCylinder 55 = .ok (.invokevirtual 99, 3) := by decide +kernel
theorem dX5_aboutCylinder_58 : decode cX5_aboutCylinder 58 = .ok (.ireturn, 1) := by decide +kernel
theorem dX5_aboutCylinder_59 : decode cX5_aboutCylinder 59 = .ok (.aload_n 0, 1) := by decide +kernel
theorem dX5_aboutCylinder_60 : decode cX5_aboutCylinder 60 = .ok (.iload_n 1, 1) := by decide +kernel
theorem dX5_aboutCylinder_61 : decode cX5_aboutCylinder 61 = .ok (.invokevirtual 103, 3) := by decide +kernel
theorem dX5_aboutCylinder_64 : decode cX5_aboutCylinder 64 = .ok (.ireturn, 1) := by decide +kernel
theorem dX5_aboutCylinder_65 : decode cX5_aboutCylinder 65 = .ok (.aload_n 0, 1) := by decide +kernel
theorem dX5_aboutCylinder_66 : decode cX5_aboutCylinder 66 = .ok (.getfield 29, 3) := by decide +kernel
theorem dX5_aboutCylinder_69 : decode cX5_aboutCylinder 69 = .ok (.iload_n 1, 1) := by decide +kernel
theorem dX5_aboutCylinder_70 : decode cX5_aboutCylinder 70 = .ok (.invokevirtual 99, 3) := by decide +kernel
theorem dX5_aboutCylinder_73 : decode cX5_aboutCylinder 73 = .ok (.ireturn, 1) := by decide +kernel
theorem dX5_aboutControl_0 : decode cX5_aboutControl 0 = .ok (.iload_n 1, 1) := by decide +kernel
theorem dX5_aboutControl_1 : decode cX5_aboutControl 1 = .ok (.tableswitch 59 0 3 #[31, 44, 49, 54], 31) := by decide +kernel
theorem dX5_aboutControl_32 : decode cX5_aboutControl 32 = .ok (.aload_n 0, 1) := by decide +kernel
theorem dX5_aboutControl_33 : decode cX5_aboutControl 33 = .ok (.getfield 83, 3) := by decide +kernel
theorem dX5_aboutControl_36 : decode cX5_aboutControl 36 = .ok (.ifCond .eq 7, 3) := by decide +kernel
theorem dX5_aboutControl_39 : decode cX5_aboutControl 39 = .ok (.iconst 1, 1) := by decide +kernel
theorem dX5_aboutControl_40 : decode cX5_aboutControl 40 = .ok (.goto 4, 3) := by decide +kernel
theorem dX5_aboutControl_43 : decode cX5_aboutControl 43 = .ok (.iconst 0, 1) := by decide +kernel
theorem dX5_aboutControl_44 : decode cX5_aboutControl 44 = .ok (.ireturn, 1) := by decide +kernel
theorem dX5_aboutControl_45 : decode cX5_aboutControl 45 = .ok (.aload_n 0, 1) := by decide +kernel
theorem dX5_aboutControl_46 : decode cX5_aboutControl 46 = .ok (.getfield 77, 3) := by decide +kernel
theorem dX5_aboutControl_49 : decode cX5_aboutControl 49 = .ok (.ireturn, 1) := by decide +kernel
theorem dX5_aboutControl_50 : decode cX5_aboutControl 50 = .ok (.aload_n 0, 1) := by decide +kernel
theorem dX5_aboutControl_51 : decode cX5_aboutControl 51 = .ok (.getfield 80, 3) := by decide +kernel
theorem dX5_aboutControl_54 : decode cX5_aboutControl 54 = .ok (.ireturn, 1) := by decide +kernel
theorem dX5_aboutControl_55 : decode cX5_aboutControl 55 = .ok (.aload_n 0, 1) := by decide +kernel
theorem dX5_aboutControl_56 : decode cX5_aboutControl 56 = .ok (.getfield 71, 3) := by decide +kernel
theorem dX5_aboutControl_59 : decode cX5_aboutControl 59 = .ok (.ireturn, 1) := by decide +kernel
theorem dX5_aboutControl_60 : decode cX5_aboutControl 60 = .ok (.aload_n 0, 1) := by decide +kernel
theorem dX5_aboutControl_61 : decode cX5_aboutControl 61 = .ok (.getfield 74, 3) := by decide +kernel
theorem dX5_aboutControl_64 : decode cX5_aboutControl 64 = .ok (.ireturn, 1) := by decide +kernel
theorem dX5_thresholdOf_0 : decode cX5_thresholdOf 0 = .ok (.aload_n 0, 1) := by decide +kernel
theorem dX5_thresholdOf_1 : decode cX5_thresholdOf 1 = .ok (.getfield 23, 3) := by decide +kernel
theorem dX5_thresholdOf_4 : decode cX5_thresholdOf 4 = .ok (.iload_n 1, 1) := by decide +kernel
theorem dX5_thresholdOf_5 : decode cX5_thresholdOf 5 = .ok (.invokevirtual 99, 3) := by decide +kernel
theorem dX5_thresholdOf_8 : decode cX5_thresholdOf 8 = .ok (.aload_n 0, 1) := by decide +kernel
theorem dX5_thresholdOf_9 : decode cX5_thresholdOf 9 = .ok (.getfield 14, 3) := by decide +kernel
theorem dX5_thresholdOf_12 : decode cX5_thresholdOf 12 = .ok (.iconst 0, 1) := by decide +kernel
theorem dX5_thresholdOf_13 : decode cX5_thresholdOf 13 = .ok (.invokevirtual 99, 3) := by decide +kernel
theorem dX5_thresholdOf_16 : decode cX5_thresholdOf 16 = .ok (.imul, 1) := by decide +kernel
theorem dX5_thresholdOf_17 : decode cX5_thresholdOf 17 = .ok (.sipush 4096, 3) := by decide +kernel
theorem dX5_thresholdOf_20 : decode cX5_thresholdOf 20 = .ok (.idiv, 1) := by decide +kernel
theorem dX5_thresholdOf_21 : decode cX5_thresholdOf 21 = .ok (.bipush 50, 2) := by decide +kernel
theorem dX5_thresholdOf_23 : decode cX5_thresholdOf 23 = .ok (.iadd, 1) := by decide +kernel
theorem dX5_thresholdOf_24 : decode cX5_thresholdOf 24 = .ok (.ireturn, 1) := by decide +kernel
theorem dX5_retardOf_0 : decode cX5_retardOf 0 = .ok (.aload_n 0, 1) := by decide +kernel
theorem dX5_retardOf_1 : decode cX5_retardOf 1 = .ok (.getfield 83, 3) := by decide +kernel
theorem dX5_retardOf_4 : decode cX5_retardOf 4 = .ok (.ifCond .eq 15, 3) := by decide +kernel
theorem dX5_retardOf_7 : decode cX5_retardOf 7 = .ok (.aload_n 0, 1) := by decide +kernel
theorem dX5_retardOf_8 : decode cX5_retardOf 8 = .ok (.getfield 14, 3) := by decide +kernel
theorem dX5_retardOf_11 : decode cX5_retardOf 11 = .ok (.bipush 7, 2) := by decide +kernel
theorem dX5_retardOf_13 : decode cX5_retardOf 13 = .ok (.invokevirtual 99, 3) := by decide +kernel
theorem dX5_retardOf_16 : decode cX5_retardOf 16 = .ok (.goto 11, 3) := by decide +kernel
theorem dX5_retardOf_19 : decode cX5_retardOf 19 = .ok (.aload_n 0, 1) := by decide +kernel
theorem dX5_retardOf_20 : decode cX5_retardOf 20 = .ok (.getfield 20, 3) := by decide +kernel
theorem dX5_retardOf_23 : decode cX5_retardOf 23 = .ok (.iload_n 1, 1) := by decide +kernel
theorem dX5_retardOf_24 : decode cX5_retardOf 24 = .ok (.invokevirtual 99, 3) := by decide +kernel
theorem dX5_retardOf_27 : decode cX5_retardOf 27 = .ok (.istore_n 3, 1) := by decide +kernel
theorem dX5_retardOf_28 : decode cX5_retardOf 28 = .ok (.iload_n 3, 1) := by decide +kernel
theorem dX5_retardOf_29 : decode cX5_retardOf 29 = .ok (.aload_n 0, 1) := by decide +kernel
theorem dX5_retardOf_30 : decode cX5_retardOf 30 = .ok (.getfield 32, 3) := by decide +kernel
theorem dX5_retardOf_33 : decode cX5_retardOf 33 = .ok (.iload_n 2, 1) := by decide +kernel
theorem dX5_retardOf_34 : decode cX5_retardOf 34 = .ok (.invokevirtual 99, 3) := by decide +kernel
theorem dX5_retardOf_37 : decode cX5_retardOf 37 = .ok (.iadd, 1) := by decide +kernel
theorem dX5_retardOf_38 : decode cX5_retardOf 38 = .ok (.aload_n 0, 1) := by decide +kernel
theorem dX5_retardOf_39 : decode cX5_retardOf 39 = .ok (.getfield 14, 3) := by decide +kernel
theorem dX5_retardOf_42 : decode cX5_retardOf 42 = .ok (.iconst 3, 1) := by decide +kernel
theorem dX5_retardOf_43 : decode cX5_retardOf 43 = .ok (.invokevirtual 99, 3) := by decide +kernel
theorem dX5_retardOf_46 : decode cX5_retardOf 46 = .ok (.invokestatic 106, 3) := by decide +kernel
theorem dX5_retardOf_49 : decode cX5_retardOf 49 = .ok (.ireturn, 1) := by decide +kernel
theorem dX5_advanceOf_0 : decode cX5_advanceOf 0 = .ok (.iload_n 2, 1) := by decide +kernel
theorem dX5_advanceOf_1 : decode cX5_advanceOf 1 = .ok (.iload_n 3, 1) := by decide +kernel
theorem dX5_advanceOf_2 : decode cX5_advanceOf 2 = .ok (.invokestatic 112, 3) := by decide +kernel
theorem dX5_advanceOf_5 : decode cX5_advanceOf 5 = .ok (.aload_n 0, 1) := by decide +kernel
theorem dX5_advanceOf_6 : decode cX5_advanceOf 6 = .ok (.iload_n 1, 1) := by decide +kernel
theorem dX5_advanceOf_7 : decode cX5_advanceOf 7 = .ok (.iload_n 2, 1) := by decide +kernel
theorem dX5_advanceOf_8 : decode cX5_advanceOf 8 = .ok (.iload_n 3, 1) := by decide +kernel
theorem dX5_advanceOf_9 : decode cX5_advanceOf 9 = .ok (.invokestatic 117, 3) := by decide +kernel
theorem dX5_advanceOf_12 : decode cX5_advanceOf 12 = .ok (.invokevirtual 120, 3) := by decide +kernel
theorem dX5_advanceOf_15 : decode cX5_advanceOf 15 = .ok (.isub, 1) := by decide +kernel
theorem dX5_advanceOf_16 : decode cX5_advanceOf 16 = .ok (.ireturn, 1) := by decide +kernel
theorem dX5_greatestFast_0 : decode cX5_greatestFast 0 = .ok (.aload_n 0, 1) := by decide +kernel
theorem dX5_greatestFast_1 : decode cX5_greatestFast 1 = .ok (.getfield 20, 3) := by decide +kernel
theorem dX5_greatestFast_4 : decode cX5_greatestFast 4 = .ok (.iconst 0, 1) := by decide +kernel
theorem dX5_greatestFast_5 : decode cX5_greatestFast 5 = .ok (.invokevirtual 99, 3) := by decide +kernel
theorem dX5_greatestFast_8 : decode cX5_greatestFast 8 = .ok (.istore_n 1, 1) := by decide +kernel
theorem dX5_greatestFast_9 : decode cX5_greatestFast 9 = .ok (.iconst 1, 1) := by decide +kernel
theorem dX5_greatestFast_10 : decode cX5_greatestFast 10 = .ok (.istore_n 2, 1) := by decide +kernel
theorem dX5_greatestFast_11 : decode cX5_greatestFast 11 = .ok (.iload_n 2, 1) := by decide +kernel
theorem dX5_greatestFast_12 : decode cX5_greatestFast 12 = .ok (.aload_n 0, 1) := by decide +kernel
theorem dX5_greatestFast_13 : decode cX5_greatestFast 13 = .ok (.getfield 61, 3) := by decide +kernel
theorem dX5_greatestFast_16 : decode cX5_greatestFast 16 = .ok (.if_icmp .ge 22, 3) := by decide +kernel
theorem dX5_greatestFast_19 : decode cX5_greatestFast 19 = .ok (.iload_n 1, 1) := by decide +kernel
theorem dX5_greatestFast_20 : decode cX5_greatestFast 20 = .ok (.aload_n 0, 1) := by decide +kernel
theorem dX5_greatestFast_21 : decode cX5_greatestFast 21 = .ok (.getfield 20, 3) := by decide +kernel
theorem dX5_greatestFast_24 : decode cX5_greatestFast 24 = .ok (.iload_n 2, 1) := by decide +kernel
theorem dX5_greatestFast_25 : decode cX5_greatestFast 25 = .ok (.invokevirtual 99, 3) := by decide +kernel
theorem dX5_greatestFast_28 : decode cX5_greatestFast 28 = .ok (.invokestatic 123, 3) := by decide +kernel
theorem dX5_greatestFast_31 : decode cX5_greatestFast 31 = .ok (.istore_n 1, 1) := by decide +kernel
theorem dX5_greatestFast_32 : decode cX5_greatestFast 32 = .ok (.iinc 2 1, 3) := by decide +kernel
theorem dX5_greatestFast_35 : decode cX5_greatestFast 35 = .ok (.goto (-24), 3) := by decide +kernel
theorem dX5_greatestFast_38 : decode cX5_greatestFast 38 = .ok (.iload_n 1, 1) := by decide +kernel
theorem dX5_greatestFast_39 : decode cX5_greatestFast 39 = .ok (.ireturn, 1) := by decide +kernel
theorem dX5_smallestFast_0 : decode cX5_smallestFast 0 = .ok (.aload_n 0, 1) := by decide +kernel
theorem dX5_smallestFast_1 : decode cX5_smallestFast 1 = .ok (.getfield 20, 3) := by decide +kernel
theorem dX5_smallestFast_4 : decode cX5_smallestFast 4 = .ok (.iconst 0, 1) := by decide +kernel
theorem dX5_smallestFast_5 : decode cX5_smallestFast 5 = .ok (.invokevirtual 99, 3) := by decide +kernel
theorem dX5_smallestFast_8 : decode cX5_smallestFast 8 = .ok (.istore_n 1, 1) := by decide +kernel
theorem dX5_smallestFast_9 : decode cX5_smallestFast 9 = .ok (.iconst 1, 1) := by decide +kernel
theorem dX5_smallestFast_10 : decode cX5_smallestFast 10 = .ok (.istore_n 2, 1) := by decide +kernel
theorem dX5_smallestFast_11 : decode cX5_smallestFast 11 = .ok (.iload_n 2, 1) := by decide +kernel
theorem dX5_smallestFast_12 : decode cX5_smallestFast 12 = .ok (.aload_n 0, 1) := by decide +kernel
theorem dX5_smallestFast_13 : decode cX5_smallestFast 13 = .ok (.getfield 61, 3) := by decide +kernel
theorem dX5_smallestFast_16 : decode cX5_smallestFast 16 = .ok (.if_icmp .ge 22, 3) := by decide +kernel
theorem dX5_smallestFast_19 : decode cX5_smallestFast 19 = .ok (.iload_n 1, 1) := by decide +kernel
theorem dX5_smallestFast_20 : decode cX5_smallestFast 20 = .ok (.aload_n 0, 1) := by decide +kernel
theorem dX5_smallestFast_21 : decode cX5_smallestFast 21 = .ok (.getfield 20, 3) := by decide +kernel
theorem dX5_smallestFast_24 : decode cX5_smallestFast 24 = .ok (.iload_n 2, 1) := by decide +kernel
theorem dX5_smallestFast_25 : decode cX5_smallestFast 25 = .ok (.invokevirtual 99, 3) := by decide +kernel
theorem dX5_smallestFast_28 : decode cX5_smallestFast 28 = .ok (.invokestatic 106, 3) := by decide +kernel
theorem dX5_smallestFast_31 : decode cX5_smallestFast 31 = .ok (.istore_n 1, 1) := by decide +kernel
theorem dX5_smallestFast_32 : decode cX5_smallestFast 32 = .ok (.iinc 2 1, 3) := by decide +kernel
theorem dX5_smallestFast_35 : decode cX5_smallestFast 35 = .ok (.goto (-24), 3) := by decide +kernel
theorem dX5_smallestFast_38 : decode cX5_smallestFast 38 = .ok (.iload_n 1, 1) := by decide +kernel
theorem dX5_smallestFast_39 : decode cX5_smallestFast 39 = .ok (.ireturn, 1) := by decide +kernel
theorem dX5_allKnocks_0 : decode cX5_allKnocks 0 = .ok (.iconst 0, 1) := by decide +kernel
theorem dX5_allKnocks_1 : decode cX5_allKnocks 1 = .ok (.istore_n 1, 1) := by decide +kernel
theorem dX5_allKnocks_2 : decode cX5_allKnocks 2 = .ok (.iconst 0, 1) := by decide +kernel
theorem dX5_allKnocks_3 : decode cX5_allKnocks 3 = .ok (.istore_n 2, 1) := by decide +kernel
theorem dX5_allKnocks_4 : decode cX5_allKnocks 4 = .ok (.iload_n 2, 1) := by decide +kernel
theorem dX5_allKnocks_5 : decode cX5_allKnocks 5 = .ok (.aload_n 0, 1) := by decide +kernel
theorem dX5_allKnocks_6 : decode cX5_allKnocks 6 = .ok (.getfield 61, 3) := by decide +kernel
theorem dX5_allKnocks_9 : decode cX5_allKnocks 9 = .ok (.if_icmp .ge 20, 3) := by decide +kernel
theorem dX5_allKnocks_12 : decode cX5_allKnocks 12 = .ok (.iload_n 1, 1) := by decide +kernel
theorem dX5_allKnocks_13 : decode cX5_allKnocks 13 = .ok (.aload_n 0, 1) := by decide +kernel
theorem dX5_allKnocks_14 : decode cX5_allKnocks 14 = .ok (.getfield 29, 3) := by decide +kernel
theorem dX5_allKnocks_17 : decode cX5_allKnocks 17 = .ok (.iload_n 2, 1) := by decide +kernel
theorem dX5_allKnocks_18 : decode cX5_allKnocks 18 = .ok (.invokevirtual 99, 3) := by decide +kernel
theorem dX5_allKnocks_21 : decode cX5_allKnocks 21 = .ok (.iadd, 1) := by decide +kernel
theorem dX5_allKnocks_22 : decode cX5_allKnocks 22 = .ok (.istore_n 1, 1) := by decide +kernel
theorem dX5_allKnocks_23 : decode cX5_allKnocks 23 = .ok (.iinc 2 1, 3) := by decide +kernel
theorem dX5_allKnocks_26 : decode cX5_allKnocks 26 = .ok (.goto (-22), 3) := by decide +kernel
theorem dX5_allKnocks_29 : decode cX5_allKnocks 29 = .ok (.iload_n 1, 1) := by decide +kernel
theorem dX5_allKnocks_30 : decode cX5_allKnocks 30 = .ok (.ireturn, 1) := by decide +kernel
theorem dX5_treatModelled_0 : decode cX5_treatModelled 0 = .ok (.aload_n 0, 1) := by decide +kernel
theorem dX5_treatModelled_1 : decode cX5_treatModelled 1 = .ok (.ldc2_w 126, 3) := by decide +kernel
theorem dX5_treatModelled_4 : decode cX5_treatModelled 4 = .ok (.aload_n 0, 1) := by decide +kernel
theorem dX5_treatModelled_5 : decode cX5_treatModelled 5 = .ok (.getfield 50, 3) := by decide +kernel
theorem dX5_treatModelled_8 : decode cX5_treatModelled 8 = .ok (.i2l, 1) := by decide +kernel
theorem dX5_treatModelled_9 : decode cX5_treatModelled 9 = .ok (.lmul, 1) := by decide +kernel
theorem dX5_treatModelled_10 : decode cX5_treatModelled 10 = .ok (.ldc2_w 128, 3) := by decide +kernel
theorem dX5_treatModelled_13 : decode cX5_treatModelled 13 = .ok (.ladd, 1) := by decide +kernel
theorem dX5_treatModelled_14 : decode cX5_treatModelled 14 = .ok (.ldc2_w 130, 3) := by decide +kernel
theorem dX5_treatModelled_17 : decode cX5_treatModelled 17 = .ok (.lrem, 1) := by decide +kernel
theorem dX5_treatModelled_18 : decode cX5_treatModelled 18 = .ok (.l2i, 1) := by decide +kernel
theorem dX5_treatModelled_19 : decode cX5_treatModelled 19 = .ok (.putfield 50, 3) := by decide +kernel
theorem dX5_treatModelled_22 : decode cX5_treatModelled 22 = .ok (.aload_n 0, 1) := by decide +kernel
theorem dX5_treatModelled_23 : decode cX5_treatModelled 23 = .ok (.getfield 54, 3) := by decide +kernel
theorem dX5_treatModelled_26 : decode cX5_treatModelled 26 = .ok (.ifCond .eq 11, 3) := by decide +kernel
theorem dX5_treatModelled_29 : decode cX5_treatModelled 29 = .ok (.aload_n 0, 1) := by decide +kernel
theorem dX5_treatModelled_30 : decode cX5_treatModelled 30 = .ok (.iload_n 1, 1) := by decide +kernel
theorem dX5_treatModelled_31 : decode cX5_treatModelled 31 = .ok (.iload_n 2, 1) := by decide +kernel
theorem dX5_treatModelled_32 : decode cX5_treatModelled 32 = .ok (.iconst 0, 1) := by decide +kernel
theorem dX5_treatModelled_33 : decode cX5_treatModelled 33 = .ok (.invokevirtual 132, 3) := by decide +kernel
theorem dX5_treatModelled_36 : decode cX5_treatModelled 36 = .ok (.ireturn, 1) := by decide +kernel
theorem dX5_treatModelled_37 : decode cX5_treatModelled 37 = .ok (.aload_n 0, 1) := by decide +kernel
theorem dX5_treatModelled_38 : decode cX5_treatModelled 38 = .ok (.getfield 50, 3) := by decide +kernel
theorem dX5_treatModelled_41 : decode cX5_treatModelled 41 = .ok (.ldc 136, 2) := by decide +kernel
theorem dX5_treatModelled_43 : decode cX5_treatModelled 43 = .ok (.idiv, 1) := by decide +kernel
theorem dX5_treatModelled_44 : decode cX5_treatModelled 44 = .ok (.bipush 40, 2) := by decide +kernel
theorem dX5_treatModelled_46 : decode cX5_treatModelled 46 = .ok (.irem, 1) := by decide +kernel
theorem dX5_treatModelled_47 : decode cX5_treatModelled 47 = .ok (.istore 4, 2) := by decide +kernel
theorem dX5_treatModelled_49 : decode cX5_treatModelled 49 = .ok (.aload_n 0, 1) := by decide +kernel
theorem dX5_treatModelled_50 : decode cX5_treatModelled 50 = .ok (.aload_n 0, 1) := by decide +kernel
theorem dX5_treatModelled_51 : decode cX5_treatModelled 51 = .ok (.getfield 89, 3) := by decide +kernel
theorem dX5_treatModelled_54 : decode cX5_treatModelled 54 = .ok (.iload_n 1, 1) := by decide +kernel
theorem dX5_treatModelled_55 : decode cX5_treatModelled 55 = .ok (.iload_n 2, 1) := by decide +kernel
theorem dX5_treatModelled_56 : decode cX5_treatModelled 56 = .ok (.invokevirtual 137, 3) := by decide +kernel
theorem dX5_treatModelled_59 : decode cX5_treatModelled 59 = .ok (.iload_n 1, 1) := by decide +kernel
theorem dX5_treatModelled_60 : decode cX5_treatModelled 60 = .ok (.iload_n 2, 1) := by decide +kernel
theorem dX5_treatModelled_61 : decode cX5_treatModelled 61 = .ok (.iload_n 3, 1) := by decide +kernel
theorem dX5_treatModelled_62 : decode cX5_treatModelled 62 = .ok (.invokestatic 140, 3) := by decide +kernel
theorem dX5_treatModelled_65 : decode cX5_treatModelled 65 = .ok (.isub, 1) := by decide +kernel
theorem dX5_treatModelled_66 : decode cX5_treatModelled 66 = .ok (.istore 5, 2) := by decide +kernel
theorem dX5_treatModelled_68 : decode cX5_treatModelled 68 = .ok (.iload_n 1, 1) := by decide +kernel
theorem dX5_treatModelled_69 : decode cX5_treatModelled 69 = .ok (.bipush 20, 2) := by decide +kernel
theorem dX5_treatModelled_71 : decode cX5_treatModelled 71 = .ok (.idiv, 1) := by decide +kernel
theorem dX5_treatModelled_72 : decode cX5_treatModelled 72 = .ok (.iload_n 2, 1) := by decide +kernel
theorem dX5_treatModelled_73 : decode cX5_treatModelled 73 = .ok (.iadd, 1) := by decide +kernel
theorem dX5_treatModelled_74 : decode cX5_treatModelled 74 = .ok (.iload 4, 2) := by decide +kernel
theorem dX5_treatModelled_76 : decode cX5_treatModelled 76 = .ok (.iadd, 1) := by decide +kernel
theorem dX5_treatModelled_77 : decode cX5_treatModelled 77 = .ok (.bipush 12, 2) := by decide +kernel
theorem dX5_treatModelled_79 : decode cX5_treatModelled 79 = .ok (.iload 5, 2) := by decide +kernel
theorem dX5_treatModelled_81 : decode cX5_treatModelled 81 = .ok (.iconst 0, 1) := by decide +kernel
theorem dX5_treatModelled_82 : decode cX5_treatModelled 82 = .ok (.invokestatic 123, 3) := by decide +kernel
theorem dX5_treatModelled_85 : decode cX5_treatModelled 85 = .ok (.imul, 1) := by decide +kernel
theorem dX5_treatModelled_86 : decode cX5_treatModelled 86 = .ok (.iadd, 1) := by decide +kernel
theorem dX5_treatModelled_87 : decode cX5_treatModelled 87 = .ok (.istore 6, 2) := by decide +kernel
theorem dX5_treatModelled_89 : decode cX5_treatModelled 89 = .ok (.aload_n 0, 1) := by decide +kernel
theorem dX5_treatModelled_90 : decode cX5_treatModelled 90 = .ok (.iload_n 1, 1) := by decide +kernel
theorem dX5_treatModelled_91 : decode cX5_treatModelled 91 = .ok (.iload_n 2, 1) := by decide +kernel
theorem dX5_treatModelled_92 : decode cX5_treatModelled 92 = .ok (.iload 6, 2) := by decide +kernel
theorem dX5_treatModelled_94 : decode cX5_treatModelled 94 = .ok (.sipush 20000, 3) := by decide +kernel
theorem dX5_treatModelled_97 : decode cX5_treatModelled 97 = .ok (.invokestatic 106, 3) := by decide +kernel
theorem dX5_treatModelled_100 : decode cX5_treatModelled 100 = .ok (.invokevirtual 132, 3) := by decide +kernel
theorem dX5_treatModelled_103 : decode cX5_treatModelled 103 = .ok (.ireturn, 1) := by decide +kernel
theorem dX5_treat_0 : decode cX5_treat 0 = .ok (.iload_n 1, 1) := by decide +kernel
theorem dX5_treat_1 : decode cX5_treat 1 = .ok (.iload_n 2, 1) := by decide +kernel
theorem dX5_treat_2 : decode cX5_treat 2 = .ok (.invokestatic 117, 3) := by decide +kernel
theorem dX5_treat_5 : decode cX5_treat 5 = .ok (.istore 4, 2) := by decide +kernel
theorem dX5_treat_7 : decode cX5_treat 7 = .ok (.aload_n 0, 1) := by decide +kernel
theorem dX5_treat_8 : decode cX5_treat 8 = .ok (.iload_n 3, 1) := by decide +kernel
theorem dX5_treat_9 : decode cX5_treat 9 = .ok (.invokevirtual 143, 3) := by decide +kernel
theorem dX5_treat_12 : decode cX5_treat 12 = .ok (.aload_n 0, 1) := by decide +kernel
theorem dX5_treat_13 : decode cX5_treat 13 = .ok (.iload 4, 2) := by decide +kernel
theorem dX5_treat_15 : decode cX5_treat 15 = .ok (.aload_n 0, 1) := by decide +kernel
theorem dX5_treat_16 : decode cX5_treat 16 = .ok (.getfield 74, 3) := by decide +kernel
theorem dX5_treat_19 : decode cX5_treat 19 = .ok (.if_icmp .ne 12, 3) := by decide +kernel
theorem dX5_treat_22 : decode cX5_treat 22 = .ok (.aload_n 0, 1) := by decide +kernel
theorem dX5_treat_23 : decode cX5_treat 23 = .ok (.getfield 71, 3) := by decide +kernel
theorem dX5_treat_26 : decode cX5_treat 26 = .ok (.iconst 1, 1) := by decide +kernel
theorem dX5_treat_27 : decode cX5_treat 27 = .ok (.iadd, 1) := by decide +kernel
theorem dX5_treat_28 : decode cX5_treat 28 = .ok (.goto 4, 3) := by decide +kernel
theorem dX5_treat_31 : decode cX5_treat 31 = .ok (.iconst 0, 1) := by decide +kernel
theorem dX5_treat_32 : decode cX5_treat 32 = .ok (.putfield 71, 3) := by decide +kernel
theorem dX5_treat_35 : decode cX5_treat 35 = .ok (.aload_n 0, 1) := by decide +kernel
theorem dX5_treat_36 : decode cX5_treat 36 = .ok (.iload 4, 2) := by decide +kernel
theorem dX5_treat_38 : decode cX5_treat 38 = .ok (.putfield 74, 3) := by decide +kernel
theorem dX5_treat_41 : decode cX5_treat 41 = .ok (.iconst 2, 1) := by decide +kernel
theorem dX5_treat_42 : decode cX5_treat 42 = .ok (.istore 5, 2) := by decide +kernel
theorem dX5_treat_44 : decode cX5_treat 44 = .ok (.aload_n 0, 1) := by decide +kernel
theorem dX5_treat_45 : decode cX5_treat 45 = .ok (.getfield 83, 3) := by decide +kernel
theorem dX5_treat_48 : decode cX5_treat 48 = .ok (.ifCond .ne 26, 3) := by decide +kernel
theorem dX5_treat_51 : decode cX5_treat 51 = .ok (.aload_n 0, 1) := by decide +kernel
theorem dX5_treat_52 : decode cX5_treat 52 = .ok (.aload_n 0, 1) := by decide +kernel
theorem dX5_treat_53 : decode cX5_treat 53 = .ok (.getfield 89, 3) := by decide +kernel
theorem dX5_treat_56 : decode cX5_treat 56 = .ok (.iload 4, 2) := by decide +kernel
theorem dX5_treat_58 : decode cX5_treat 58 = .ok (.iload_n 3, 1) := by decide +kernel
theorem dX5_treat_59 : decode cX5_treat 59 = .ok (.invokevirtual 146, 3) := by decide +kernel
theorem dX5_treat_62 : decode cX5_treat 62 = .ok (.istore 5, 2) := by decide +kernel
theorem dX5_treat_64 : decode cX5_treat 64 = .ok (.aload_n 0, 1) := by decide +kernel
theorem dX5_treat_65 : decode cX5_treat 65 = .ok (.invokevirtual 149, 3) := by decide +kernel
theorem dX5_treat_68 : decode cX5_treat 68 = .ok (.aload_n 0, 1) := by decide +kernel
theorem dX5_treat_69 : decode cX5_treat 69 = .ok (.iload 4, 2) := by decide +kernel
theorem dX5_treat_71 : decode cX5_treat 71 = .ok (.invokevirtual 152, 3) := by decide +kernel
theorem dX5_treat_74 : decode cX5_treat 74 = .ok (.aload_n 0, 1) := by decide +kernel
theorem dX5_treat_75 : decode cX5_treat 75 = .ok (.dup, 1) := by decide +kernel
theorem dX5_treat_76 : decode cX5_treat 76 = .ok (.getfield 86, 3) := by decide +kernel
theorem dX5_treat_79 : decode cX5_treat 79 = .ok (.iconst 1, 1) := by decide +kernel
theorem dX5_treat_80 : decode cX5_treat 80 = .ok (.iadd, 1) := by decide +kernel
theorem dX5_treat_81 : decode cX5_treat 81 = .ok (.putfield 86, 3) := by decide +kernel
theorem dX5_treat_84 : decode cX5_treat 84 = .ok (.aload_n 0, 1) := by decide +kernel
theorem dX5_treat_85 : decode cX5_treat 85 = .ok (.aload_n 0, 1) := by decide +kernel
theorem dX5_treat_86 : decode cX5_treat 86 = .ok (.getfield 89, 3) := by decide +kernel
theorem dX5_treat_89 : decode cX5_treat 89 = .ok (.iconst 1, 1) := by decide +kernel
theorem dX5_treat_90 : decode cX5_treat 90 = .ok (.iadd, 1) := by decide +kernel
theorem dX5_treat_91 : decode cX5_treat 91 = .ok (.aload_n 0, 1) := by decide +kernel
theorem dX5_treat_92 : decode cX5_treat 92 = .ok (.getfield 61, 3) := by decide +kernel
theorem dX5_treat_95 : decode cX5_treat 95 = .ok (.if_icmp .ge 12, 3) := by decide +kernel
theorem dX5_treat_98 : decode cX5_treat 98 = .ok (.aload_n 0, 1) := by decide +kernel
theorem dX5_treat_99 : decode cX5_treat 99 = .ok (.getfield 89, 3) := by decide +kernel
theorem dX5_treat_102 : decode cX5_treat 102 = .ok (.iconst 1, 1) := by decide +kernel
theorem dX5_treat_103 : decode cX5_treat 103 = .ok (.iadd, 1) := by decide +kernel
theorem dX5_treat_104 : decode cX5_treat 104 = .ok (.goto 4, 3) := by decide +kernel
theorem dX5_treat_107 : decode cX5_treat 107 = .ok (.iconst 0, 1) := by decide +kernel
theorem dX5_treat_108 : decode cX5_treat 108 = .ok (.putfield 89, 3) := by decide +kernel
theorem dX5_treat_111 : decode cX5_treat 111 = .ok (.iload 5, 2) := by decide +kernel
theorem dX5_treat_113 : decode cX5_treat 113 = .ok (.ireturn, 1) := by decide +kernel
theorem dX5_watchSensor_0 : decode cX5_watchSensor 0 = .ok (.iload_n 1, 1) := by decide +kernel
theorem dX5_watchSensor_1 : decode cX5_watchSensor 1 = .ok (.aload_n 0, 1) := by decide +kernel
theorem dX5_watchSensor_2 : decode cX5_watchSensor 2 = .ok (.getfield 14, 3) := by decide +kernel
theorem dX5_watchSensor_5 : decode cX5_watchSensor 5 = .ok (.bipush 6, 2) := by decide +kernel
theorem dX5_watchSensor_7 : decode cX5_watchSensor 7 = .ok (.invokevirtual 99, 3) := by decide +kernel
theorem dX5_watchSensor_10 : decode cX5_watchSensor 10 = .ok (.if_icmp .ge 7, 3) := by decide +kernel
theorem dX5_watchSensor_13 : decode cX5_watchSensor 13 = .ok (.iconst 1, 1) := by decide +kernel
theorem dX5_watchSensor_14 : decode cX5_watchSensor 14 = .ok (.goto 4, 3) := by decide +kernel
theorem dX5_watchSensor_17 : decode cX5_watchSensor 17 = .ok (.iconst 0, 1) := by decide +kernel
theorem dX5_watchSensor_18 : decode cX5_watchSensor 18 = .ok (.istore_n 2, 1) := by decide +kernel
theorem dX5_watchSensor_19 : decode cX5_watchSensor 19 = .ok (.aload_n 0, 1) := by decide +kernel
theorem dX5_watchSensor_20 : decode cX5_watchSensor 20 = .ok (.iload_n 2, 1) := by decide +kernel
theorem dX5_watchSensor_21 : decode cX5_watchSensor 21 = .ok (.ifCond .eq 12, 3) := by decide +kernel
theorem dX5_watchSensor_24 : decode cX5_watchSensor 24 = .ok (.aload_n 0, 1) := by decide +kernel
theorem dX5_watchSensor_25 : decode cX5_watchSensor 25 = .ok (.getfield 77, 3) := by decide +kernel
theorem dX5_watchSensor_28 : decode cX5_watchSensor 28 = .ok (.iconst 1, 1) := by decide +kernel
theorem dX5_watchSensor_29 : decode cX5_watchSensor 29 = .ok (.iadd, 1) := by decide +kernel
theorem dX5_watchSensor_30 : decode cX5_watchSensor 30 = .ok (.goto 4, 3) := by decide +kernel
theorem dX5_watchSensor_33 : decode cX5_watchSensor 33 = .ok (.iconst 0, 1) := by decide +kernel
theorem dX5_watchSensor_34 : decode cX5_watchSensor 34 = .ok (.putfield 77, 3) := by decide +kernel
theorem dX5_watchSensor_37 : decode cX5_watchSensor 37 = .ok (.aload_n 0, 1) := by decide +kernel
theorem dX5_watchSensor_38 : decode cX5_watchSensor 38 = .ok (.iload_n 2, 1) := by decide +kernel
theorem dX5_watchSensor_39 : decode cX5_watchSensor 39 = .ok (.ifCond .eq 7, 3) := by decide +kernel
theorem dX5_watchSensor_42 : decode cX5_watchSensor 42 = .ok (.iconst 0, 1) := by decide +kernel
theorem dX5_watchSensor_43 : decode cX5_watchSensor 43 = .ok (.goto 9, 3) := by decide +kernel
theorem dX5_watchSensor_46 : decode cX5_watchSensor 46 = .ok (.aload_n 0, 1) := by decide +kernel
theorem dX5_watchSensor_47 : decode cX5_watchSensor 47 = .ok (.getfield 80, 3) := by decide +kernel
theorem dX5_watchSensor_50 : decode cX5_watchSensor 50 = .ok (.iconst 1, 1) := by decide +kernel
theorem dX5_watchSensor_51 : decode cX5_watchSensor 51 = .ok (.iadd, 1) := by decide +kernel
theorem dX5_watchSensor_52 : decode cX5_watchSensor 52 = .ok (.putfield 80, 3) := by decide +kernel
theorem dX5_watchSensor_55 : decode cX5_watchSensor 55 = .ok (.aload_n 0, 1) := by decide +kernel
theorem dX5_watchSensor_56 : decode cX5_watchSensor 56 = .ok (.getfield 83, 3) := by decide +kernel
theorem dX5_watchSensor_59 : decode cX5_watchSensor 59 = .ok (.ifCond .ne 33, 3) := by decide +kernel
theorem dX5_watchSensor_62 : decode cX5_watchSensor 62 = .ok (.aload_n 0, 1) := by decide +kernel
theorem dX5_watchSensor_63 : decode cX5_watchSensor 63 = .ok (.getfield 77, 3) := by decide +kernel
theorem dX5_watchSensor_66 : decode cX5_watchSensor 66 = .ok (.bipush 20, 2) := by decide +kernel
theorem dX5_watchSensor_68 : decode cX5_watchSensor 68 = .ok (.if_icmp .lt 24, 3) := by decide +kernel
theorem dX5_watchSensor_71 : decode cX5_watchSensor 71 = .ok (.aload_n 0, 1) := by decide +kernel
theorem dX5_watchSensor_72 : decode cX5_watchSensor 72 = .ok (.iconst 1, 1) := by decide +kernel
theorem dX5_watchSensor_73 : decode cX5_watchSensor 73 = .ok (.putfield 83, 3) := by decide +kernel
theorem dX5_watchSensor_76 : decode cX5_watchSensor 76 = .ok (.aload_n 0, 1) := by decide +kernel
theorem dX5_watchSensor_77 : decode cX5_watchSensor 77 = .ok (.getfield 38, 3) := by decide +kernel
theorem dX5_watchSensor_80 : decode cX5_watchSensor 80 = .ok (.iconst 1, 1) := by decide +kernel
theorem dX5_watchSensor_81 : decode cX5_watchSensor 81 = .ok (.iconst 0, 1) := by decide +kernel
theorem dX5_watchSensor_82 : decode cX5_watchSensor 82 = .ok (.aload_n 0, 1) := by decide +kernel
theorem dX5_watchSensor_83 : decode cX5_watchSensor 83 = .ok (.getfield 86, 3) := by decide +kernel
theorem dX5_watchSensor_86 : decode cX5_watchSensor 86 = .ok (.invokevirtual 155, 3) := by decide +kernel
theorem dX5_watchSensor_89 : decode cX5_watchSensor 89 = .ok (.goto 37, 3) := by decide +kernel
theorem dX5_watchSensor_92 : decode cX5_watchSensor 92 = .ok (.aload_n 0, 1) := by decide +kernel
theorem dX5_watchSensor_93 : decode cX5_watchSensor 93 = .ok (.getfield 83, 3) := by decide +kernel
theorem dX5_watchSensor_96 : decode cX5_watchSensor 96 = .ok (.ifCond .eq 30, 3) := by decide +kernel
theorem dX5_watchSensor_99 : decode cX5_watchSensor 99 = .ok (.aload_n 0, 1) := by decide +kernel
theorem dX5_watchSensor_100 : decode cX5_watchSensor 100 = .ok (.getfield 80, 3) := by decide +kernel
theorem dX5_watchSensor_103 : decode cX5_watchSensor 103 = .ok (.bipush 50, 2) := by decide +kernel
theorem dX5_watchSensor_105 : decode cX5_watchSensor 105 = .ok (.if_icmp .lt 21, 3) := by decide +kernel
theorem dX5_watchSensor_108 : decode cX5_watchSensor 108 = .ok (.aload_n 0, 1) := by decide +kernel
theorem dX5_watchSensor_109 : decode cX5_watchSensor 109 = .ok (.iconst 0, 1) := by decide +kernel
theorem dX5_watchSensor_110 : decode cX5_watchSensor 110 = .ok (.putfield 83, 3) := by decide +kernel
theorem dX5_watchSensor_113 : decode cX5_watchSensor 113 = .ok (.aload_n 0, 1) := by decide +kernel
theorem dX5_watchSensor_114 : decode cX5_watchSensor 114 = .ok (.getfield 38, 3) := by decide +kernel
theorem dX5_watchSensor_117 : decode cX5_watchSensor 117 = .ok (.iconst 2, 1) := by decide +kernel
theorem dX5_watchSensor_118 : decode cX5_watchSensor 118 = .ok (.iconst 0, 1) := by decide +kernel
theorem dX5_watchSensor_119 : decode cX5_watchSensor 119 = .ok (.aload_n 0, 1) := by decide +kernel
theorem dX5_watchSensor_120 : decode cX5_watchSensor 120 = .ok (.getfield 86, 3) := by decide +kernel
theorem dX5_watchSensor_123 : decode cX5_watchSensor 123 = .ok (.invokevirtual 155, 3) := by decide +kernel
theorem dX5_watchSensor_126 : decode cX5_watchSensor 126 = .ok (.return_, 1) := by decide +kernel
theorem dX5_listen_0 : decode cX5_listen 0 = .ok (.aload_n 0, 1) := by decide +kernel
theorem dX5_listen_1 : decode cX5_listen 1 = .ok (.iload_n 1, 1) := by decide +kernel
theorem dX5_listen_2 : decode cX5_listen 2 = .ok (.invokevirtual 103, 3) := by decide +kernel
theorem dX5_listen_5 : decode cX5_listen 5 = .ok (.istore 4, 2) := by decide +kernel
theorem dX5_listen_7 : decode cX5_listen 7 = .ok (.iload_n 3, 1) := by decide +kernel
theorem dX5_listen_8 : decode cX5_listen 8 = .ok (.iload 4, 2) := by decide +kernel
theorem dX5_listen_10 : decode cX5_listen 10 = .ok (.if_icmp .le 45, 3) := by decide +kernel
theorem dX5_listen_13 : decode cX5_listen 13 = .ok (.aload_n 0, 1) := by decide +kernel
theorem dX5_listen_14 : decode cX5_listen 14 = .ok (.iload_n 1, 1) := by decide +kernel
theorem dX5_listen_15 : decode cX5_listen 15 = .ok (.iload_n 2, 1) := by decide +kernel
theorem dX5_listen_16 : decode cX5_listen 16 = .ok (.iload_n 3, 1) := by decide +kernel
theorem dX5_listen_17 : decode cX5_listen 17 = .ok (.iload 4, 2) := by decide +kernel
theorem dX5_listen_19 : decode cX5_listen 19 = .ok (.invokevirtual 159, 3) := by decide +kernel
theorem dX5_listen_22 : decode cX5_listen 22 = .ok (.aload_n 0, 1) := by decide +kernel
theorem dX5_listen_23 : decode cX5_listen 23 = .ok (.getfield 26, 3) := by decide +kernel
theorem dX5_listen_26 : decode cX5_listen 26 = .ok (.iload_n 1, 1) := by decide +kernel
theorem dX5_listen_27 : decode cX5_listen 27 = .ok (.iconst 0, 1) := by decide +kernel
theorem dX5_listen_28 : decode cX5_listen 28 = .ok (.invokevirtual 46, 3) := by decide +kernel
theorem dX5_listen_31 : decode cX5_listen 31 = .ok (.aload_n 0, 1) := by decide +kernel
theorem dX5_listen_32 : decode cX5_listen 32 = .ok (.getfield 29, 3) := by decide +kernel
theorem dX5_listen_35 : decode cX5_listen 35 = .ok (.iload_n 1, 1) := by decide +kernel
theorem dX5_listen_36 : decode cX5_listen 36 = .ok (.iconst 1, 1) := by decide +kernel
theorem dX5_listen_37 : decode cX5_listen 37 = .ok (.invokevirtual 163, 3) := by decide +kernel
theorem dX5_listen_40 : decode cX5_listen 40 = .ok (.aload_n 0, 1) := by decide +kernel
theorem dX5_listen_41 : decode cX5_listen 41 = .ok (.getfield 38, 3) := by decide +kernel
theorem dX5_listen_44 : decode cX5_listen 44 = .ok (.iconst 0, 1) := by decide +kernel
theorem dX5_listen_45 : decode cX5_listen 45 = .ok (.iload_n 1, 1) := by decide +kernel
theorem dX5_listen_46 : decode cX5_listen 46 = .ok (.aload_n 0, 1) := by decide +kernel
theorem dX5_listen_47 : decode cX5_listen 47 = .ok (.getfield 86, 3) := by decide +kernel
theorem dX5_listen_50 : decode cX5_listen 50 = .ok (.invokevirtual 155, 3) := by decide +kernel
theorem dX5_listen_53 : decode cX5_listen 53 = .ok (.iconst 1, 1) := by decide +kernel
theorem dX5_listen_54 : decode cX5_listen 54 = .ok (.ireturn, 1) := by decide +kernel
theorem dX5_listen_55 : decode cX5_listen 55 = .ok (.aload_n 0, 1) := by decide +kernel
theorem dX5_listen_56 : decode cX5_listen 56 = .ok (.getfield 23, 3) := by decide +kernel
theorem dX5_listen_59 : decode cX5_listen 59 = .ok (.iload_n 1, 1) := by decide +kernel
theorem dX5_listen_60 : decode cX5_listen 60 = .ok (.sipush 256, 3) := by decide +kernel
theorem dX5_listen_63 : decode cX5_listen 63 = .ok (.iload_n 3, 1) := by decide +kernel
theorem dX5_listen_64 : decode cX5_listen 64 = .ok (.imul, 1) := by decide +kernel
theorem dX5_listen_65 : decode cX5_listen 65 = .ok (.aload_n 0, 1) := by decide +kernel
theorem dX5_listen_66 : decode cX5_listen 66 = .ok (.getfield 23, 3) := by decide +kernel
theorem dX5_listen_69 : decode cX5_listen 69 = .ok (.iload_n 1, 1) := by decide +kernel
theorem dX5_listen_70 : decode cX5_listen 70 = .ok (.invokevirtual 99, 3) := by decide +kernel
theorem dX5_listen_73 : decode cX5_listen 73 = .ok (.isub, 1) := by decide +kernel
theorem dX5_listen_74 : decode cX5_listen 74 = .ok (.bipush 16, 2) := by decide +kernel
theorem dX5_listen_76 : decode cX5_listen 76 = .ok (.invokestatic 166, 3) := by decide +kernel
theorem dX5_listen_79 : decode cX5_listen 79 = .ok (.invokevirtual 163, 3) := by decide +kernel
theorem dX5_listen_82 : decode cX5_listen 82 = .ok (.aload_n 0, 1) := by decide +kernel
theorem dX5_listen_83 : decode cX5_listen 83 = .ok (.getfield 26, 3) := by decide +kernel
theorem dX5_listen_86 : decode cX5_listen 86 = .ok (.iload_n 1, 1) := by decide +kernel
theorem dX5_listen_87 : decode cX5_listen 87 = .ok (.iconst 1, 1) := by decide +kernel
theorem dX5_listen_88 : decode cX5_listen 88 = .ok (.invokevirtual 163, 3) := by decide +kernel
theorem dX5_listen_91 : decode cX5_listen 91 = .ok (.aload_n 0, 1) := by decide +kernel
theorem dX5_listen_92 : decode cX5_listen 92 = .ok (.getfield 26, 3) := by decide +kernel
theorem dX5_listen_95 : decode cX5_listen 95 = .ok (.iload_n 1, 1) := by decide +kernel
theorem dX5_listen_96 : decode cX5_listen 96 = .ok (.invokevirtual 99, 3) := by decide +kernel
theorem dX5_listen_99 : decode cX5_listen 99 = .ok (.aload_n 0, 1) := by decide +kernel
theorem dX5_listen_100 : decode cX5_listen 100 = .ok (.getfield 14, 3) := by decide +kernel
theorem dX5_listen_103 : decode cX5_listen 103 = .ok (.iconst 2, 1) := by decide +kernel
theorem dX5_listen_104 : decode cX5_listen 104 = .ok (.invokevirtual 99, 3) := by decide +kernel
theorem dX5_listen_107 : decode cX5_listen 107 = .ok (.if_icmp .lt 17, 3) := by decide +kernel
theorem dX5_listen_110 : decode cX5_listen 110 = .ok (.aload_n 0, 1) := by decide +kernel
theorem dX5_listen_111 : decode cX5_listen 111 = .ok (.getfield 26, 3) := by decide +kernel
theorem dX5_listen_114 : decode cX5_listen 114 = .ok (.iload_n 1, 1) := by decide +kernel
theorem dX5_listen_115 : decode cX5_listen 115 = .ok (.iconst 0, 1) := by decide +kernel
theorem dX5_listen_116 : decode cX5_listen 116 = .ok (.invokevirtual 46, 3) := by decide +kernel
theorem dX5_listen_119 : decode cX5_listen 119 = .ok (.aload_n 0, 1) := by decide +kernel
theorem dX5_listen_120 : decode cX5_listen 120 = .ok (.iload_n 1, 1) := by decide +kernel
theorem dX5_listen_121 : decode cX5_listen 121 = .ok (.invokevirtual 169, 3) := by decide +kernel
theorem dX5_listen_124 : decode cX5_listen 124 = .ok (.iconst 0, 1) := by decide +kernel
theorem dX5_listen_125 : decode cX5_listen 125 = .ok (.ireturn, 1) := by decide +kernel
theorem dX5_retardFast_0 : decode cX5_retardFast 0 = .ok (.aload_n 0, 1) := by decide +kernel
theorem dX5_retardFast_1 : decode cX5_retardFast 1 = .ok (.getfield 14, 3) := by decide +kernel
theorem dX5_retardFast_4 : decode cX5_retardFast 4 = .ok (.iconst 1, 1) := by decide +kernel
theorem dX5_retardFast_5 : decode cX5_retardFast 5 = .ok (.invokevirtual 99, 3) := by decide +kernel
theorem dX5_retardFast_8 : decode cX5_retardFast 8 = .ok (.istore 5, 2) := by decide +kernel
theorem dX5_retardFast_10 : decode cX5_retardFast 10 = .ok (.iload 4, 2) := by decide +kernel
theorem dX5_retardFast_12 : decode cX5_retardFast 12 = .ok (.ifCond .le 16, 3) := by decide +kernel
theorem dX5_retardFast_15 : decode cX5_retardFast 15 = .ok (.iload 5, 2) := by decide +kernel
theorem dX5_retardFast_17 : decode cX5_retardFast 17 = .ok (.iload_n 3, 1) := by decide +kernel
theorem dX5_retardFast_18 : decode cX5_retardFast 18 = .ok (.iload 4, 2) := by decide +kernel
theorem dX5_retardFast_20 : decode cX5_retardFast 20 = .ok (.isub, 1) := by decide +kernel
theorem dX5_retardFast_21 : decode cX5_retardFast 21 = .ok (.imul, 1) := by decide +kernel
theorem dX5_retardFast_22 : decode cX5_retardFast 22 = .ok (.iload 4, 2) := by decide +kernel
theorem dX5_retardFast_24 : decode cX5_retardFast 24 = .ok (.idiv, 1) := by decide +kernel
theorem dX5_retardFast_25 : decode cX5_retardFast 25 = .ok (.goto 4, 3) := by decide +kernel
theorem dX5_retardFast_28 : decode cX5_retardFast 28 = .ok (.iconst 0, 1) := by decide +kernel
theorem dX5_retardFast_29 : decode cX5_retardFast 29 = .ok (.istore 6, 2) := by decide +kernel
theorem dX5_retardFast_31 : decode cX5_retardFast 31 = .ok (.aload_n 0, 1) := by decide +kernel
theorem dX5_retardFast_32 : decode cX5_retardFast 32 = .ok (.getfield 20, 3) := by decide +kernel
theorem dX5_retardFast_35 : decode cX5_retardFast 35 = .ok (.iload_n 1, 1) := by decide +kernel
theorem dX5_retardFast_36 : decode cX5_retardFast 36 = .ok (.invokevirtual 99, 3) := by decide +kernel
theorem dX5_retardFast_39 : decode cX5_retardFast 39 = .ok (.iload 5, 2) := by decide +kernel
theorem dX5_retardFast_41 : decode cX5_retardFast 41 = .ok (.iadd, 1) := by decide +kernel
theorem dX5_retardFast_42 : decode cX5_retardFast 42 = .ok (.iconst 3, 1) := by decide +kernel
theorem dX5_retardFast_43 : decode cX5_retardFast 43 = .ok (.iload 5, 2) := by decide +kernel
theorem dX5_retardFast_45 : decode cX5_retardFast 45 = .ok (.imul, 1) := by decide +kernel
theorem dX5_retardFast_46 : decode cX5_retardFast 46 = .ok (.iload 6, 2) := by decide +kernel
theorem dX5_retardFast_48 : decode cX5_retardFast 48 = .ok (.invokestatic 106, 3) := by decide +kernel
theorem dX5_retardFast_51 : decode cX5_retardFast 51 = .ok (.iadd, 1) := by decide +kernel
theorem dX5_retardFast_52 : decode cX5_retardFast 52 = .ok (.istore 7, 2) := by decide +kernel
theorem dX5_retardFast_54 : decode cX5_retardFast 54 = .ok (.aload_n 0, 1) := by decide +kernel
theorem dX5_retardFast_55 : decode cX5_retardFast 55 = .ok (.getfield 14, 3) := by decide +kernel
theorem dX5_retardFast_58 : decode cX5_retardFast 58 = .ok (.iconst 3, 1) := by decide +kernel
theorem dX5_retardFast_59 : decode cX5_retardFast 59 = .ok (.invokevirtual 99, 3) := by decide +kernel
theorem dX5_retardFast_62 : decode cX5_retardFast 62 = .ok (.aload_n 0, 1) := by decide +kernel
theorem dX5_retardFast_63 : decode cX5_retardFast 63 = .ok (.getfield 32, 3) := by decide +kernel
theorem dX5_retardFast_66 : decode cX5_retardFast 66 = .ok (.iload_n 2, 1) := by decide +kernel
theorem dX5_retardFast_67 : decode cX5_retardFast 67 = .ok (.invokevirtual 99, 3) := by decide +kernel
theorem dX5_retardFast_70 : decode cX5_retardFast 70 = .ok (.isub, 1) := by decide +kernel
theorem dX5_retardFast_71 : decode cX5_retardFast 71 = .ok (.istore 8, 2) := by decide +kernel
theorem dX5_retardFast_73 : decode cX5_retardFast 73 = .ok (.aload_n 0, 1) := by decide +kernel
theorem dX5_retardFast_74 : decode cX5_retardFast 74 = .ok (.getfield 20, 3) := by decide +kernel
theorem dX5_retardFast_77 : decode cX5_retardFast 77 = .ok (.iload_n 1, 1) := by decide +kernel
theorem dX5_retardFast_78 : decode cX5_retardFast 78 = .ok (.aload_n 0, 1) := by decide +kernel
theorem dX5_retardFast_79 : decode cX5_retardFast 79 = .ok (.getfield 20, 3) := by decide +kernel
theorem dX5_retardFast_82 : decode cX5_retardFast 82 = .ok (.iload_n 1, 1) := by decide +kernel
theorem dX5_retardFast_83 : decode cX5_retardFast 83 = .ok (.invokevirtual 99, 3) := by decide +kernel
theorem dX5_retardFast_86 : decode cX5_retardFast 86 = .ok (.iload 7, 2) := by decide +kernel
theorem dX5_retardFast_88 : decode cX5_retardFast 88 = .ok (.iload 8, 2) := by decide +kernel
theorem dX5_retardFast_90 : decode cX5_retardFast 90 = .ok (.invokestatic 106, 3) := by decide +kernel
theorem dX5_retardFast_93 : decode cX5_retardFast 93 = .ok (.invokestatic 123, 3) := by decide +kernel
theorem dX5_retardFast_96 : decode cX5_retardFast 96 = .ok (.invokevirtual 46, 3) := by decide +kernel
theorem dX5_retardFast_99 : decode cX5_retardFast 99 = .ok (.return_, 1) := by decide +kernel
theorem dX5_lowerFast_0 : decode cX5_lowerFast 0 = .ok (.aload_n 0, 1) := by decide +kernel
theorem dX5_lowerFast_1 : decode cX5_lowerFast 1 = .ok (.getfield 20, 3) := by decide +kernel
theorem dX5_lowerFast_4 : decode cX5_lowerFast 4 = .ok (.iload_n 1, 1) := by decide +kernel
theorem dX5_lowerFast_5 : decode cX5_lowerFast 5 = .ok (.invokevirtual 99, 3) := by decide +kernel
theorem dX5_lowerFast_8 : decode cX5_lowerFast 8 = .ok (.ifCond .le 12, 3) := by decide +kernel
theorem dX5_lowerFast_11 : decode cX5_lowerFast 11 = .ok (.aload_n 0, 1) := by decide +kernel
theorem dX5_lowerFast_12 : decode cX5_lowerFast 12 = .ok (.getfield 20, 3) := by decide +kernel
theorem dX5_lowerFast_15 : decode cX5_lowerFast 15 = .ok (.iload_n 1, 1) := by decide +kernel
theorem dX5_lowerFast_16 : decode cX5_lowerFast 16 = .ok (.iconst (-1), 1) := by decide +kernel
theorem dX5_lowerFast_17 : decode cX5_lowerFast 17 = .ok (.invokevirtual 163, 3) := by decide +kernel
theorem dX5_lowerFast_20 : decode cX5_lowerFast 20 = .ok (.return_, 1) := by decide +kernel
theorem dX5_keepTogether_0 : decode cX5_keepTogether 0 = .ok (.aload_n 0, 1) := by decide +kernel
theorem dX5_keepTogether_1 : decode cX5_keepTogether 1 = .ok (.invokevirtual 172, 3) := by decide +kernel
theorem dX5_keepTogether_4 : decode cX5_keepTogether 4 = .ok (.aload_n 0, 1) := by decide +kernel
theorem dX5_keepTogether_5 : decode cX5_keepTogether 5 = .ok (.getfield 14, 3) := by decide +kernel
theorem dX5_keepTogether_8 : decode cX5_keepTogether 8 = .ok (.iconst 4, 1) := by decide +kernel
theorem dX5_keepTogether_9 : decode cX5_keepTogether 9 = .ok (.invokevirtual 99, 3) := by decide +kernel
theorem dX5_keepTogether_12 : decode cX5_keepTogether 12 = .ok (.isub, 1) := by decide +kernel
theorem dX5_keepTogether_13 : decode cX5_keepTogether 13 = .ok (.istore_n 1, 1) := by decide +kernel
theorem dX5_keepTogether_14 : decode cX5_keepTogether 14 = .ok (.iconst 0, 1) := by decide +kernel
theorem dX5_keepTogether_15 : decode cX5_keepTogether 15 = .ok (.istore_n 2, 1) := by decide +kernel
theorem dX5_keepTogether_16 : decode cX5_keepTogether 16 = .ok (.iload_n 2, 1) := by decide +kernel
theorem dX5_keepTogether_17 : decode cX5_keepTogether 17 = .ok (.aload_n 0, 1) := by decide +kernel
theorem dX5_keepTogether_18 : decode cX5_keepTogether 18 = .ok (.getfield 61, 3) := by decide +kernel
theorem dX5_keepTogether_21 : decode cX5_keepTogether 21 = .ok (.if_icmp .ge 29, 3) := by decide +kernel
theorem dX5_keepTogether_24 : decode cX5_keepTogether 24 = .ok (.aload_n 0, 1) := by decide +kernel
theorem dX5_keepTogether_25 : decode cX5_keepTogether 25 = .ok (.getfield 20, 3) := by decide +kernel
theorem dX5_keepTogether_28 : decode cX5_keepTogether 28 = .ok (.iload_n 2, 1) := by decide +kernel
theorem dX5_keepTogether_29 : decode cX5_keepTogether 29 = .ok (.aload_n 0, 1) := by decide +kernel
theorem dX5_keepTogether_30 : decode cX5_keepTogether 30 = .ok (.getfield 20, 3) := by decide +kernel
theorem dX5_keepTogether_33 : decode cX5_keepTogether 33 = .ok (.iload_n 2, 1) := by decide +kernel
theorem dX5_keepTogether_34 : decode cX5_keepTogether 34 = .ok (.invokevirtual 99, 3) := by decide +kernel
theorem dX5_keepTogether_37 : decode cX5_keepTogether 37 = .ok (.iload_n 1, 1) := by decide +kernel
theorem dX5_keepTogether_38 : decode cX5_keepTogether 38 = .ok (.invokestatic 123, 3) := by decide +kernel
theorem dX5_keepTogether_41 : decode cX5_keepTogether 41 = .ok (.invokevirtual 46, 3) := by decide +kernel
theorem dX5_keepTogether_44 : decode cX5_keepTogether 44 = .ok (.iinc 2 1, 3) := by decide +kernel
theorem dX5_keepTogether_47 : decode cX5_keepTogether 47 = .ok (.goto (-31), 3) := by decide +kernel
theorem dX5_keepTogether_50 : decode cX5_keepTogether 50 = .ok (.return_, 1) := by decide +kernel
theorem dX5_learn_0 : decode cX5_learn 0 = .ok (.aload_n 0, 1) := by decide +kernel
theorem dX5_learn_1 : decode cX5_learn 1 = .ok (.getfield 61, 3) := by decide +kernel
theorem dX5_learn_4 : decode cX5_learn 4 = .ok (.ifCond .le 30, 3) := by decide +kernel
theorem dX5_learn_7 : decode cX5_learn 7 = .ok (.aload_n 0, 1) := by decide +kernel
theorem dX5_learn_8 : decode cX5_learn 8 = .ok (.getfield 71, 3) := by decide +kernel
theorem dX5_learn_11 : decode cX5_learn 11 = .ok (.aload_n 0, 1) := by decide +kernel
theorem dX5_learn_12 : decode cX5_learn 12 = .ok (.getfield 14, 3) := by decide +kernel
theorem dX5_learn_15 : decode cX5_learn 15 = .ok (.iconst 5, 1) := by decide +kernel
theorem dX5_learn_16 : decode cX5_learn 16 = .ok (.invokevirtual 99, 3) := by decide +kernel
theorem dX5_learn_19 : decode cX5_learn 19 = .ok (.if_icmp .lt 15, 3) := by decide +kernel
theorem dX5_learn_22 : decode cX5_learn 22 = .ok (.aload_n 0, 1) := by decide +kernel
theorem dX5_learn_23 : decode cX5_learn 23 = .ok (.getfield 71, 3) := by decide +kernel
theorem dX5_learn_26 : decode cX5_learn 26 = .ok (.aload_n 0, 1) := by decide +kernel
theorem dX5_learn_27 : decode cX5_learn 27 = .ok (.getfield 61, 3) := by decide +kernel
theorem dX5_learn_30 : decode cX5_learn 30 = .ok (.irem, 1) := by decide +kernel
theorem dX5_learn_31 : decode cX5_learn 31 = .ok (.ifCond .eq 4, 3) := by decide +kernel
theorem dX5_learn_34 : decode cX5_learn 34 = .ok (.return_, 1) := by decide +kernel
theorem dX5_learn_35 : decode cX5_learn 35 = .ok (.aload_n 0, 1) := by decide +kernel
theorem dX5_learn_36 : decode cX5_learn 36 = .ok (.invokevirtual 176, 3) := by decide +kernel
theorem dX5_learn_39 : decode cX5_learn 39 = .ok (.aload_n 0, 1) := by decide +kernel
theorem dX5_learn_40 : decode cX5_learn 40 = .ok (.getfield 61, 3) := by decide +kernel
theorem dX5_learn_43 : decode cX5_learn 43 = .ok (.idiv, 1) := by decide +kernel
theorem dX5_learn_44 : decode cX5_learn 44 = .ok (.istore_n 2, 1) := by decide +kernel
theorem dX5_learn_45 : decode cX5_learn 45 = .ok (.aload_n 0, 1) := by decide +kernel
theorem dX5_learn_46 : decode cX5_learn 46 = .ok (.getfield 32, 3) := by decide +kernel
theorem dX5_learn_49 : decode cX5_learn 49 = .ok (.iload_n 1, 1) := by decide +kernel
theorem dX5_learn_50 : decode cX5_learn 50 = .ok (.invokevirtual 99, 3) := by decide +kernel
theorem dX5_learn_53 : decode cX5_learn 53 = .ok (.istore_n 3, 1) := by decide +kernel
theorem dX5_learn_54 : decode cX5_learn 54 = .ok (.iload_n 2, 1) := by decide +kernel
theorem dX5_learn_55 : decode cX5_learn 55 = .ok (.bipush 20, 2) := by decide +kernel
theorem dX5_learn_57 : decode cX5_learn 57 = .ok (.if_icmp .le 60, 3) := by decide +kernel
theorem dX5_learn_60 : decode cX5_learn 60 = .ok (.iload_n 3, 1) := by decide +kernel
theorem dX5_learn_61 : decode cX5_learn 61 = .ok (.bipush 100, 2) := by decide +kernel
theorem dX5_learn_63 : decode cX5_learn 63 = .ok (.if_icmp .ge 54, 3) := by decide +kernel
theorem dX5_learn_66 : decode cX5_learn 66 = .ok (.aload_n 0, 1) := by decide +kernel
theorem dX5_learn_67 : decode cX5_learn 67 = .ok (.getfield 32, 3) := by decide +kernel
theorem dX5_learn_70 : decode cX5_learn 70 = .ok (.iload_n 1, 1) := by decide +kernel
theorem dX5_learn_71 : decode cX5_learn 71 = .ok (.iload_n 3, 1) := by decide +kernel
theorem dX5_learn_72 : decode cX5_learn 72 = .ok (.iconst 1, 1) := by decide +kernel
theorem dX5_learn_73 : decode cX5_learn 73 = .ok (.iadd, 1) := by decide +kernel
theorem dX5_learn_74 : decode cX5_learn 74 = .ok (.invokevirtual 46, 3) := by decide +kernel
theorem dX5_learn_77 : decode cX5_learn 77 = .ok (.iconst 0, 1) := by decide +kernel
theorem dX5_learn_78 : decode cX5_learn 78 = .ok (.istore 4, 2) := by decide +kernel
theorem dX5_learn_80 : decode cX5_learn 80 = .ok (.iload 4, 2) := by decide +kernel
theorem dX5_learn_82 : decode cX5_learn 82 = .ok (.aload_n 0, 1) := by decide +kernel
theorem dX5_learn_83 : decode cX5_learn 83 = .ok (.getfield 61, 3) := by decide +kernel
theorem dX5_learn_86 : decode cX5_learn 86 = .ok (.if_icmp .ge 15, 3) := by decide +kernel
theorem dX5_learn_89 : decode cX5_learn 89 = .ok (.aload_n 0, 1) := by decide +kernel
theorem dX5_learn_90 : decode cX5_learn 90 = .ok (.iload 4, 2) := by decide +kernel
theorem dX5_learn_92 : decode cX5_learn 92 = .ok (.invokevirtual 169, 3) := by decide +kernel
theorem dX5_learn_95 : decode cX5_learn 95 = .ok (.iinc 4 1, 3) := by decide +kernel
theorem dX5_learn_98 : decode cX5_learn 98 = .ok (.goto (-18), 3) := by decide +kernel
theorem dX5_learn_101 : decode cX5_learn 101 = .ok (.aload_n 0, 1) := by decide +kernel
theorem dX5_learn_102 : decode cX5_learn 102 = .ok (.getfield 38, 3) := by decide +kernel
theorem dX5_learn_105 : decode cX5_learn 105 = .ok (.iconst 3, 1) := by decide +kernel
theorem dX5_learn_106 : decode cX5_learn 106 = .ok (.iload_n 1, 1) := by decide +kernel
theorem dX5_learn_107 : decode cX5_learn 107 = .ok (.aload_n 0, 1) := by decide +kernel
theorem dX5_learn_108 : decode cX5_learn 108 = .ok (.getfield 86, 3) := by decide +kernel
theorem dX5_learn_111 : decode cX5_learn 111 = .ok (.invokevirtual 155, 3) := by decide +kernel
theorem dX5_learn_114 : decode cX5_learn 114 = .ok (.goto 36, 3) := by decide +kernel
theorem dX5_learn_117 : decode cX5_learn 117 = .ok (.iload_n 2, 1) := by decide +kernel
theorem dX5_learn_118 : decode cX5_learn 118 = .ok (.iconst 5, 1) := by decide +kernel
theorem dX5_learn_119 : decode cX5_learn 119 = .ok (.if_icmp .ge 31, 3) := by decide +kernel
theorem dX5_learn_122 : decode cX5_learn 122 = .ok (.iload_n 3, 1) := by decide +kernel
theorem dX5_learn_123 : decode cX5_learn 123 = .ok (.ifCond .le 27, 3) := by decide +kernel
theorem dX5_learn_126 : decode cX5_learn 126 = .ok (.aload_n 0, 1) := by decide +kernel
theorem dX5_learn_127 : decode cX5_learn 127 = .ok (.getfield 32, 3) := by decide +kernel
theorem dX5_learn_130 : decode cX5_learn 130 = .ok (.iload_n 1, 1) := by decide +kernel
theorem dX5_learn_131 : decode cX5_learn 131 = .ok (.iload_n 3, 1) := by decide +kernel
theorem dX5_learn_132 : decode cX5_learn 132 = .ok (.iconst 1, 1) := by decide +kernel
theorem dX5_learn_133 : decode cX5_learn 133 = .ok (.isub, 1) := by decide +kernel
theorem dX5_learn_134 : decode cX5_learn 134 = .ok (.invokevirtual 46, 3) := by decide +kernel
theorem dX5_learn_137 : decode cX5_learn 137 = .ok (.aload_n 0, 1) := by decide +kernel
theorem dX5_learn_138 : decode cX5_learn 138 = .ok (.getfield 38, 3) := by decide +kernel
theorem dX5_learn_141 : decode cX5_learn 141 = .ok (.iconst 4, 1) := by decide +kernel
theorem dX5_learn_142 : decode cX5_learn 142 = .ok (.iload_n 1, 1) := by decide +kernel
theorem dX5_learn_143 : decode cX5_learn 143 = .ok (.aload_n 0, 1) := by decide +kernel
theorem dX5_learn_144 : decode cX5_learn 144 = .ok (.getfield 86, 3) := by decide +kernel
theorem dX5_learn_147 : decode cX5_learn 147 = .ok (.invokevirtual 155, 3) := by decide +kernel
theorem dX5_learn_150 : decode cX5_learn 150 = .ok (.return_, 1) := by decide +kernel
theorem dX5_sumOfFast_0 : decode cX5_sumOfFast 0 = .ok (.iconst 0, 1) := by decide +kernel
theorem dX5_sumOfFast_1 : decode cX5_sumOfFast 1 = .ok (.istore_n 1, 1) := by decide +kernel
theorem dX5_sumOfFast_2 : decode cX5_sumOfFast 2 = .ok (.iconst 0, 1) := by decide +kernel
theorem dX5_sumOfFast_3 : decode cX5_sumOfFast 3 = .ok (.istore_n 2, 1) := by decide +kernel
theorem dX5_sumOfFast_4 : decode cX5_sumOfFast 4 = .ok (.iload_n 2, 1) := by decide +kernel
theorem dX5_sumOfFast_5 : decode cX5_sumOfFast 5 = .ok (.aload_n 0, 1) := by decide +kernel
theorem dX5_sumOfFast_6 : decode cX5_sumOfFast 6 = .ok (.getfield 61, 3) := by decide +kernel
theorem dX5_sumOfFast_9 : decode cX5_sumOfFast 9 = .ok (.if_icmp .ge 20, 3) := by decide +kernel
theorem dX5_sumOfFast_12 : decode cX5_sumOfFast 12 = .ok (.iload_n 1, 1) := by decide +kernel
theorem dX5_sumOfFast_13 : decode cX5_sumOfFast 13 = .ok (.aload_n 0, 1) := by decide +kernel
theorem dX5_sumOfFast_14 : decode cX5_sumOfFast 14 = .ok (.getfield 20, 3) := by decide +kernel
theorem dX5_sumOfFast_17 : decode cX5_sumOfFast 17 = .ok (.iload_n 2, 1) := by decide +kernel
theorem dX5_sumOfFast_18 : decode cX5_sumOfFast 18 = .ok (.invokevirtual 99, 3) := by decide +kernel
theorem dX5_sumOfFast_21 : decode cX5_sumOfFast 21 = .ok (.iadd, 1) := by decide +kernel
theorem dX5_sumOfFast_22 : decode cX5_sumOfFast 22 = .ok (.istore_n 1, 1) := by decide +kernel
theorem dX5_sumOfFast_23 : decode cX5_sumOfFast 23 = .ok (.iinc 2 1, 3) := by decide +kernel
theorem dX5_sumOfFast_26 : decode cX5_sumOfFast 26 = .ok (.goto (-22), 3) := by decide +kernel
theorem dX5_sumOfFast_29 : decode cX5_sumOfFast 29 = .ok (.iload_n 1, 1) := by decide +kernel
theorem dX5_sumOfFast_30 : decode cX5_sumOfFast 30 = .ok (.ireturn, 1) := by decide +kernel
theorem dX6_init_0 : decode cX6_init 0 = .ok (.aload_n 0, 1) := by decide +kernel
theorem dX6_init_1 : decode cX6_init 1 = .ok (.invokespecial 3, 3) := by decide +kernel
theorem dX6_init_4 : decode cX6_init 4 = .ok (.aload_n 0, 1) := by decide +kernel
theorem dX6_init_5 : decode cX6_init 5 = .ok (.new 9, 3) := by decide +kernel
theorem dX6_init_8 : decode cX6_init 8 = .ok (.dup, 1) := by decide +kernel
theorem dX6_init_9 : decode cX6_init 9 = .ok (.invokespecial 11, 3) := by decide +kernel
theorem dX6_init_12 : decode cX6_init 12 = .ok (.putfield 12, 3) := by decide +kernel
theorem dX6_init_15 : decode cX6_init 15 = .ok (.aload_n 0, 1) := by decide +kernel
theorem dX6_init_16 : decode cX6_init 16 = .ok (.new 9, 3) := by decide +kernel
theorem dX6_init_19 : decode cX6_init 19 = .ok (.dup, 1) := by decide +kernel
theorem dX6_init_20 : decode cX6_init 20 = .ok (.invokespecial 11, 3) := by decide +kernel
theorem dX6_init_23 : decode cX6_init 23 = .ok (.putfield 16, 3) := by decide +kernel
theorem dX6_init_26 : decode cX6_init 26 = .ok (.aload_n 0, 1) := by decide +kernel
theorem dX6_init_27 : decode cX6_init 27 = .ok (.new 19, 3) := by decide +kernel
theorem dX6_init_30 : decode cX6_init 30 = .ok (.dup, 1) := by decide +kernel
theorem dX6_init_31 : decode cX6_init 31 = .ok (.invokespecial 21, 3) := by decide +kernel
theorem dX6_init_34 : decode cX6_init 34 = .ok (.putfield 22, 3) := by decide +kernel
theorem dX6_init_37 : decode cX6_init 37 = .ok (.aload_n 0, 1) := by decide +kernel
theorem dX6_init_38 : decode cX6_init 38 = .ok (.new 26, 3) := by decide +kernel
theorem dX6_init_41 : decode cX6_init 41 = .ok (.dup, 1) := by decide +kernel
theorem dX6_init_42 : decode cX6_init 42 = .ok (.invokespecial 28, 3) := by decide +kernel
theorem dX6_init_45 : decode cX6_init 45 = .ok (.putfield 29, 3) := by decide +kernel
theorem dX6_init_48 : decode cX6_init 48 = .ok (.return_, 1) := by decide +kernel
theorem dX6_begin_0 : decode cX6_begin 0 = .ok (.iload_n 1, 1) := by decide +kernel
theorem dX6_begin_1 : decode cX6_begin 1 = .ok (.iconst 2, 1) := by decide +kernel
theorem dX6_begin_2 : decode cX6_begin 2 = .ok (.bipush 8, 2) := by decide +kernel
theorem dX6_begin_4 : decode cX6_begin 4 = .ok (.invokestatic 33, 3) := by decide +kernel
theorem dX6_begin_7 : decode cX6_begin 7 = .ok (.invokestatic 37, 3) := by decide +kernel
theorem dX6_begin_10 : decode cX6_begin 10 = .ok (.aload_n 0, 1) := by decide +kernel
theorem dX6_begin_11 : decode cX6_begin 11 = .ok (.getfield 12, 3) := by decide +kernel
theorem dX6_begin_14 : decode cX6_begin 14 = .ok (.getfield 41, 3) := by decide +kernel
theorem dX6_begin_17 : decode cX6_begin 17 = .ok (.istore_n 2, 1) := by decide +kernel
theorem dX6_begin_18 : decode cX6_begin 18 = .ok (.aload_n 0, 1) := by decide +kernel
theorem dX6_begin_19 : decode cX6_begin 19 = .ok (.getfield 22, 3) := by decide +kernel
theorem dX6_begin_22 : decode cX6_begin 22 = .ok (.aload_n 0, 1) := by decide +kernel
theorem dX6_begin_23 : decode cX6_begin 23 = .ok (.getfield 12, 3) := by decide +kernel
theorem dX6_begin_26 : decode cX6_begin 26 = .ok (.invokevirtual 45, 3) := by decide +kernel
theorem dX6_begin_29 : decode cX6_begin 29 = .ok (.aload_n 0, 1) := by decide +kernel
theorem dX6_begin_30 : decode cX6_begin 30 = .ok (.getfield 12, 3) := by decide +kernel
theorem dX6_begin_33 : decode cX6_begin 33 = .ok (.iload_n 1, 1) := by decide +kernel
theorem dX6_begin_34 : decode cX6_begin 34 = .ok (.invokevirtual 49, 3) := by decide +kernel
theorem dX6_begin_37 : decode cX6_begin 37 = .ok (.iload_n 2, 1) := by decide +kernel
theorem dX6_begin_38 : decode cX6_begin 38 = .ok (.ireturn, 1) := by decide +kernel
theorem dX6_set_0 : decode cX6_set 0 = .ok (.iload_n 1, 1) := by decide +kernel
theorem dX6_set_1 : decode cX6_set 1 = .ok (.iload_n 2, 1) := by decide +kernel
theorem dX6_set_2 : decode cX6_set 2 = .ok (.invokestatic 53, 3) := by decide +kernel
theorem dX6_set_5 : decode cX6_set 5 = .ok (.invokestatic 37, 3) := by decide +kernel
theorem dX6_set_8 : decode cX6_set 8 = .ok (.aload_n 0, 1) := by decide +kernel
theorem dX6_set_9 : decode cX6_set 9 = .ok (.getfield 12, 3) := by decide +kernel
theorem dX6_set_12 : decode cX6_set 12 = .ok (.getfield 57, 3) := by decide +kernel
theorem dX6_set_15 : decode cX6_set 15 = .ok (.iload_n 1, 1) := by decide +kernel
theorem dX6_set_16 : decode cX6_set 16 = .ok (.invokevirtual 61, 3) := by decide +kernel
theorem dX6_set_19 : decode cX6_set 19 = .ok (.istore_n 3, 1) := by decide +kernel
theorem dX6_set_20 : decode cX6_set 20 = .ok (.aload_n 0, 1) := by decide +kernel
theorem dX6_set_21 : decode cX6_set 21 = .ok (.getfield 22, 3) := by decide +kernel
theorem dX6_set_24 : decode cX6_set 24 = .ok (.aload_n 0, 1) := by decide +kernel
theorem dX6_set_25 : decode cX6_set 25 = .ok (.getfield 12, 3) := by decide +kernel
theorem dX6_set_28 : decode cX6_set 28 = .ok (.invokevirtual 45, 3) := by decide +kernel
theorem dX6_set_31 : decode cX6_set 31 = .ok (.aload_n 0, 1) := by decide +kernel
theorem dX6_set_32 : decode cX6_set 32 = .ok (.getfield 12, 3) := by decide +kernel
theorem dX6_set_35 : decode cX6_set 35 = .ok (.getfield 57, 3) := by decide +kernel
theorem dX6_set_38 : decode cX6_set 38 = .ok (.iload_n 1, 1) := by decide +kernel
theorem dX6_set_39 : decode cX6_set 39 = .ok (.iload_n 2, 1) := by decide +kernel
theorem dX6_set_40 : decode cX6_set 40 = .ok (.invokevirtual 67, 3) := by decide +kernel
theorem dX6_set_43 : decode cX6_set 43 = .ok (.iload_n 3, 1) := by decide +kernel
theorem dX6_set_44 : decode cX6_set 44 = .ok (.ireturn, 1) := by decide +kernel
theorem dX6_value_0 : decode cX6_value 0 = .ok (.iload_n 1, 1) := by decide +kernel
theorem dX6_value_1 : decode cX6_value 1 = .ok (.iconst 0, 1) := by decide +kernel
theorem dX6_value_2 : decode cX6_value 2 = .ok (.bipush 8, 2) := by decide +kernel
theorem dX6_value_4 : decode cX6_value 4 = .ok (.invokestatic 33, 3) := by decide +kernel
theorem dX6_value_7 : decode cX6_value 7 = .ok (.invokestatic 37, 3) := by decide +kernel
theorem dX6_value_10 : decode cX6_value 10 = .ok (.aload_n 0, 1) := by decide +kernel
theorem dX6_value_11 : decode cX6_value 11 = .ok (.getfield 12, 3) := by decide +kernel
theorem dX6_value_14 : decode cX6_value 14 = .ok (.iload_n 1, 1) := by decide +kernel
theorem dX6_value_15 : decode cX6_value 15 = .ok (.invokevirtual 71, 3) := by decide +kernel
theorem dX6_value_18 : decode cX6_value 18 = .ok (.ireturn, 1) := by decide +kernel
theorem dX6_teach_0 : decode cX6_teach 0 = .ok (.iload_n 1, 1) := by decide +kernel
theorem dX6_teach_1 : decode cX6_teach 1 = .ok (.iload_n 2, 1) := by decide +kernel
theorem dX6_teach_2 : decode cX6_teach 2 = .ok (.invokestatic 74, 3) := by decide +kernel
theorem dX6_teach_5 : decode cX6_teach 5 = .ok (.invokestatic 77, 3) := by decide +kernel
theorem dX6_teach_8 : decode cX6_teach 8 = .ok (.iload_n 3, 1) := by decide +kernel
theorem dX6_teach_9 : decode cX6_teach 9 = .ok (.iconst 0, 1) := by decide +kernel
theorem dX6_teach_10 : decode cX6_teach 10 = .ok (.bipush 100, 2) := by decide +kernel
theorem dX6_teach_12 : decode cX6_teach 12 = .ok (.invokestatic 33, 3) := by decide +kernel
theorem dX6_teach_15 : decode cX6_teach 15 = .ok (.invokestatic 37, 3) := by decide +kernel
theorem dX6_teach_18 : decode cX6_teach 18 = .ok (.iconst 4, 1) := by decide +kernel
theorem dX6_teach_19 : decode cX6_teach 19 = .ok (.iload_n 1, 1) := by decide +kernel
theorem dX6_teach_20 : decode cX6_teach 20 = .ok (.imul, 1) := by decide +kernel
theorem dX6_teach_21 : decode cX6_teach 21 = .ok (.iload_n 2, 1) := by decide +kernel
theorem dX6_teach_22 : decode cX6_teach 22 = .ok (.iadd, 1) := by decide +kernel
theorem dX6_teach_23 : decode cX6_teach 23 = .ok (.istore 4, 2) := by decide +kernel
theorem dX6_teach_25 : decode cX6_teach 25 = .ok (.aload_n 0, 1) := by decide +kernel
theorem dX6_teach_26 : decode cX6_teach 26 = .ok (.getfield 12, 3) := by decide +kernel
theorem dX6_teach_29 : decode cX6_teach 29 = .ok (.getfield 80, 3) := by decide +kernel
theorem dX6_teach_32 : decode cX6_teach 32 = .ok (.iload 4, 2) := by decide +kernel
theorem dX6_teach_34 : decode cX6_teach 34 = .ok (.invokevirtual 61, 3) := by decide +kernel
theorem dX6_teach_37 : decode cX6_teach 37 = .ok (.istore 5, 2) := by decide +kernel
theorem dX6_teach_39 : decode cX6_teach 39 = .ok (.aload_n 0, 1) := by decide +kernel
theorem dX6_teach_40 : decode cX6_teach 40 = .ok (.getfield 22, 3) := by decide +kernel
theorem dX6_teach_43 : decode cX6_teach 43 = .ok (.aload_n 0, 1) := by decide +kernel
theorem dX6_teach_44 : decode cX6_teach 44 = .ok (.getfield 12, 3) := by decide +kernel
theorem dX6_teach_47 : decode cX6_teach 47 = .ok (.invokevirtual 45, 3) := by decide +kernel
theorem dX6_teach_50 : decode cX6_teach 50 = .ok (.aload_n 0, 1) := by decide +kernel
theorem dX6_teach_51 : decode cX6_teach 51 = .ok (.getfield 12, 3) := by decide +kernel
theorem dX6_teach_54 : decode cX6_teach 54 = .ok (.getfield 80, 3) := by decide +kernel
theorem dX6_teach_57 : decode cX6_teach 57 = .ok (.iload 4, 2) := by decide +kernel
theorem dX6_teach_59 : decode cX6_teach 59 = .ok (.iload_n 3, 1) := by decide +kernel
theorem dX6_teach_60 : decode cX6_teach 60 = .ok (.invokevirtual 67, 3) := by decide +kernel
theorem dX6_teach_63 : decode cX6_teach 63 = .ok (.iload 5, 2) := by decide +kernel
theorem dX6_teach_65 : decode cX6_teach 65 = .ok (.ireturn, 1) := by decide +kernel
theorem dX6_breakSensor_0 : decode cX6_breakSensor 0 = .ok (.aload_n 0, 1) := by decide +kernel
theorem dX6_breakSensor_1 : decode cX6_breakSensor 1 = .ok (.getfield 12, 3) := by decide +kernel
theorem dX6_breakSensor_4 : decode cX6_breakSensor 4 = .ok (.getfield 83, 3) := by decide +kernel
theorem dX6_breakSensor_7 : decode cX6_breakSensor 7 = .ok (.istore_n 2, 1) := by decide +kernel
theorem dX6_breakSensor_8 : decode cX6_breakSensor 8 = .ok (.aload_n 0, 1) := by decide +kernel
theorem dX6_breakSensor_9 : decode cX6_breakSensor 9 = .ok (.getfield 22, 3) := by decide +kernel
theorem dX6_breakSensor_12 : decode cX6_breakSensor 12 = .ok (.aload_n 0, 1) := by decide +kernel
theorem dX6_breakSensor_13 : decode cX6_breakSensor 13 = .ok (.getfield 12, 3) := by decide +kernel
theorem dX6_breakSensor_16 : decode cX6_breakSensor 16 = .ok (.invokevirtual 45, 3) := by decide +kernel
theorem dX6_breakSensor_19 : decode cX6_breakSensor 19 = .ok (.aload_n 0, 1) := by decide +kernel
theorem dX6_breakSensor_20 : decode cX6_breakSensor 20 = .ok (.getfield 12, 3) := by decide +kernel
theorem dX6_breakSensor_23 : decode cX6_breakSensor 23 = .ok (.iload_n 1, 1) := by decide +kernel
theorem dX6_breakSensor_24 : decode cX6_breakSensor 24 = .ok (.putfield 83, 3) := by decide +kernel
theorem dX6_breakSensor_27 : decode cX6_breakSensor 27 = .ok (.iload_n 2, 1) := by decide +kernel
theorem dX6_breakSensor_28 : decode cX6_breakSensor 28 = .ok (.ireturn, 1) := by decide +kernel
theorem dX6_seed_0 : decode cX6_seed 0 = .ok (.iload_n 1, 1) := by decide +kernel
theorem dX6_seed_1 : decode cX6_seed 1 = .ok (.iconst 0, 1) := by decide +kernel
theorem dX6_seed_2 : decode cX6_seed 2 = .ok (.ldc 87, 2) := by decide +kernel
theorem dX6_seed_4 : decode cX6_seed 4 = .ok (.invokestatic 33, 3) := by decide +kernel
theorem dX6_seed_7 : decode cX6_seed 7 = .ok (.invokestatic 37, 3) := by decide +kernel
theorem dX6_seed_10 : decode cX6_seed 10 = .ok (.aload_n 0, 1) := by decide +kernel
theorem dX6_seed_11 : decode cX6_seed 11 = .ok (.getfield 12, 3) := by decide +kernel
theorem dX6_seed_14 : decode cX6_seed 14 = .ok (.getfield 88, 3) := by decide +kernel
theorem dX6_seed_17 : decode cX6_seed 17 = .ok (.istore_n 2, 1) := by decide +kernel
theorem dX6_seed_18 : decode cX6_seed 18 = .ok (.aload_n 0, 1) := by decide +kernel
theorem dX6_seed_19 : decode cX6_seed 19 = .ok (.getfield 22, 3) := by decide +kernel
theorem dX6_seed_22 : decode cX6_seed 22 = .ok (.aload_n 0, 1) := by decide +kernel
theorem dX6_seed_23 : decode cX6_seed 23 = .ok (.getfield 12, 3) := by decide +kernel
theorem dX6_seed_26 : decode cX6_seed 26 = .ok (.invokevirtual 45, 3) := by decide +kernel
theorem dX6_seed_29 : decode cX6_seed 29 = .ok (.aload_n 0, 1) := by decide +kernel
theorem dX6_seed_30 : decode cX6_seed 30 = .ok (.getfield 12, 3) := by decide +kernel
theorem dX6_seed_33 : decode cX6_seed 33 = .ok (.iload_n 1, 1) := by decide +kernel
theorem dX6_seed_34 : decode cX6_seed 34 = .ok (.putfield 88, 3) := by decide +kernel
theorem dX6_seed_37 : decode cX6_seed 37 = .ok (.iload_n 2, 1) := by decide +kernel
theorem dX6_seed_38 : decode cX6_seed 38 = .ok (.ireturn, 1) := by decide +kernel
theorem dX6_fire_0 : decode cX6_fire 0 = .ok (.iload_n 1, 1) := by decide +kernel
theorem dX6_fire_1 : decode cX6_fire 1 = .ok (.iload_n 2, 1) := by decide +kernel
theorem dX6_fire_2 : decode cX6_fire 2 = .ok (.iload_n 3, 1) := by decide +kernel
theorem dX6_fire_3 : decode cX6_fire 3 = .ok (.invokestatic 91, 3) := by decide +kernel
theorem dX6_fire_6 : decode cX6_fire 6 = .ok (.invokestatic 37, 3) := by decide +kernel
theorem dX6_fire_9 : decode cX6_fire 9 = .ok (.aload_n 0, 1) := by decide +kernel
theorem dX6_fire_10 : decode cX6_fire 10 = .ok (.getfield 22, 3) := by decide +kernel
theorem dX6_fire_13 : decode cX6_fire 13 = .ok (.aload_n 0, 1) := by decide +kernel
theorem dX6_fire_14 : decode cX6_fire 14 = .ok (.getfield 12, 3) := by decide +kernel
theorem dX6_fire_17 : decode cX6_fire 17 = .ok (.invokevirtual 45, 3) := by decide +kernel
theorem dX6_fire_20 : decode cX6_fire 20 = .ok (.aload_n 0, 1) := by decide +kernel
theorem dX6_fire_21 : decode cX6_fire 21 = .ok (.getfield 12, 3) := by decide +kernel
theorem dX6_fire_24 : decode cX6_fire 24 = .ok (.iload_n 1, 1) := by decide +kernel
theorem dX6_fire_25 : decode cX6_fire 25 = .ok (.iload_n 2, 1) := by decide +kernel
theorem dX6_fire_26 : decode cX6_fire 26 = .ok (.iload_n 3, 1) := by decide +kernel
theorem dX6_fire_27 : decode cX6_fire 27 = .ok (.invokevirtual 94, 3) := by decide +kernel
theorem dX6_fire_30 : decode cX6_fire 30 = .ok (.ireturn, 1) := by decide +kernel
theorem dX6_drive_0 : decode cX6_drive 0 = .ok (.iload_n 1, 1) := by decide +kernel
theorem dX6_drive_1 : decode cX6_drive 1 = .ok (.iload_n 2, 1) := by decide +kernel
theorem dX6_drive_2 : decode cX6_drive 2 = .ok (.iload_n 3, 1) := by decide +kernel
theorem dX6_drive_3 : decode cX6_drive 3 = .ok (.invokestatic 98, 3) := by decide +kernel
theorem dX6_drive_6 : decode cX6_drive 6 = .ok (.ifCond .eq 19, 3) := by decide +kernel
theorem dX6_drive_9 : decode cX6_drive 9 = .ok (.iload 4, 2) := by decide +kernel
theorem dX6_drive_11 : decode cX6_drive 11 = .ok (.iconst 0, 1) := by decide +kernel
theorem dX6_drive_12 : decode cX6_drive 12 = .ok (.sipush 1000, 3) := by decide +kernel
theorem dX6_drive_15 : decode cX6_drive 15 = .ok (.invokestatic 33, 3) := by decide +kernel
theorem dX6_drive_18 : decode cX6_drive 18 = .ok (.ifCond .eq 7, 3) := by decide +kernel
theorem dX6_drive_21 : decode cX6_drive 21 = .ok (.iconst 1, 1) := by decide +kernel
theorem dX6_drive_22 : decode cX6_drive 22 = .ok (.goto 4, 3) := by decide +kernel
theorem dX6_drive_25 : decode cX6_drive 25 = .ok (.iconst 0, 1) := by decide +kernel
theorem dX6_drive_26 : decode cX6_drive 26 = .ok (.invokestatic 37, 3) := by decide +kernel
theorem dX6_drive_29 : decode cX6_drive 29 = .ok (.aload_n 0, 1) := by decide +kernel
theorem dX6_drive_30 : decode cX6_drive 30 = .ok (.getfield 22, 3) := by decide +kernel
theorem dX6_drive_33 : decode cX6_drive 33 = .ok (.aload_n 0, 1) := by decide +kernel
theorem dX6_drive_34 : decode cX6_drive 34 = .ok (.getfield 12, 3) := by decide +kernel
theorem dX6_drive_37 : decode cX6_drive 37 = .ok (.invokevirtual 45, 3) := by decide +kernel
theorem dX6_drive_40 : decode cX6_drive 40 = .ok (.iconst 0, 1) := by decide +kernel
theorem dX6_drive_41 : decode cX6_drive 41 = .ok (.istore 5, 2) := by decide +kernel
theorem dX6_drive_43 : decode cX6_drive 43 = .ok (.iconst 0, 1) := by decide +kernel
theorem dX6_drive_44 : decode cX6_drive 44 = .ok (.istore 6, 2) := by decide +kernel
theorem dX6_drive_46 : decode cX6_drive 46 = .ok (.iload 6, 2) := by decide +kernel
theorem dX6_drive_48 : decode cX6_drive 48 = .ok (.iload 4, 2) := by decide +kernel
theorem dX6_drive_50 : decode cX6_drive 50 = .ok (.if_icmp .ge 26, 3) := by decide +kernel
theorem dX6_drive_53 : decode cX6_drive 53 = .ok (.aload_n 0, 1) := by decide +kernel
theorem dX6_drive_54 : decode cX6_drive 54 = .ok (.getfield 12, 3) := by decide +kernel
theorem dX6_drive_57 : decode cX6_drive 57 = .ok (.iload_n 1, 1) := by decide +kernel
theorem dX6_drive_58 : decode cX6_drive 58 = .ok (.iload_n 2, 1) := by decide +kernel
theorem dX6_drive_59 : decode cX6_drive 59 = .ok (.iload_n 3, 1) := by decide +kernel
theorem dX6_drive_60 : decode cX6_drive 60 = .ok (.invokevirtual 101, 3) := by decide +kernel
theorem dX6_drive_63 : decode cX6_drive 63 = .ok (.iconst 1, 1) := by decide +kernel
theorem dX6_drive_64 : decode cX6_drive 64 = .ok (.if_icmp .ne 6, 3) := by decide +kernel
theorem dX6_drive_67 : decode cX6_drive 67 = .ok (.iinc 5 1, 3) := by decide +kernel
theorem dX6_drive_70 : decode cX6_drive 70 = .ok (.iinc 6 1, 3) := by decide +kernel
theorem dX6_drive_73 : decode cX6_drive 73 = .ok (.goto (-27), 3) := by decide +kernel
theorem dX6_drive_76 : decode cX6_drive 76 = .ok (.iload 5, 2) := by decide +kernel
theorem dX6_drive_78 : decode cX6_drive 78 = .ok (.ireturn, 1) := by decide +kernel
theorem dX6_firings_0 : decode cX6_firings 0 = .ok (.aload_n 0, 1) := by decide +kernel
theorem dX6_firings_1 : decode cX6_firings 1 = .ok (.getfield 12, 3) := by decide +kernel
theorem dX6_firings_4 : decode cX6_firings 4 = .ok (.getfield 41, 3) := by decide +kernel
theorem dX6_firings_7 : decode cX6_firings 7 = .ok (.ireturn, 1) := by decide +kernel
theorem dX6_next_0 : decode cX6_next 0 = .ok (.aload_n 0, 1) := by decide +kernel
theorem dX6_next_1 : decode cX6_next 1 = .ok (.getfield 12, 3) := by decide +kernel
theorem dX6_next_4 : decode cX6_next 4 = .ok (.getfield 104, 3) := by decide +kernel
theorem dX6_next_7 : decode cX6_next 7 = .ok (.ireturn, 1) := by decide +kernel
theorem dX6_cylinder_0 : decode cX6_cylinder 0 = .ok (.aload_n 0, 1) := by decide +kernel
theorem dX6_cylinder_1 : decode cX6_cylinder 1 = .ok (.iload_n 1, 1) := by decide +kernel
theorem dX6_cylinder_2 : decode cX6_cylinder 2 = .ok (.invokevirtual 107, 3) := by decide +kernel
theorem dX6_cylinder_5 : decode cX6_cylinder 5 = .ok (.invokestatic 77, 3) := by decide +kernel
theorem dX6_cylinder_8 : decode cX6_cylinder 8 = .ok (.iload_n 2, 1) := by decide +kernel
theorem dX6_cylinder_9 : decode cX6_cylinder 9 = .ok (.iconst 0, 1) := by decide +kernel
theorem dX6_cylinder_10 : decode cX6_cylinder 10 = .ok (.iconst 4, 1) := by decide +kernel
theorem dX6_cylinder_11 : decode cX6_cylinder 11 = .ok (.invokestatic 33, 3) := by decide +kernel
theorem dX6_cylinder_14 : decode cX6_cylinder 14 = .ok (.invokestatic 37, 3) := by decide +kernel
theorem dX6_cylinder_17 : decode cX6_cylinder 17 = .ok (.aload_n 0, 1) := by decide +kernel
theorem dX6_cylinder_18 : decode cX6_cylinder 18 = .ok (.getfield 12, 3) := by decide +kernel
theorem dX6_cylinder_21 : decode cX6_cylinder 21 = .ok (.iload_n 1, 1) := by decide +kernel
theorem dX6_cylinder_22 : decode cX6_cylinder 22 = .ok (.iload_n 2, 1) := by decide +kernel
theorem dX6_cylinder_23 : decode cX6_cylinder 23 = .ok (.invokevirtual 111, 3) := by decide +kernel
theorem dX6_cylinder_26 : decode cX6_cylinder 26 = .ok (.ireturn, 1) := by decide +kernel
theorem dX6_learned_0 : decode cX6_learned 0 = .ok (.iload_n 1, 1) := by decide +kernel
theorem dX6_learned_1 : decode cX6_learned 1 = .ok (.iload_n 2, 1) := by decide +kernel
theorem dX6_learned_2 : decode cX6_learned 2 = .ok (.invokestatic 74, 3) := by decide +kernel
theorem dX6_learned_5 : decode cX6_learned 5 = .ok (.invokestatic 77, 3) := by decide +kernel
theorem dX6_learned_8 : decode cX6_learned 8 = .ok (.aload_n 0, 1) := by decide +kernel
theorem dX6_learned_9 : decode cX6_learned 9 = .ok (.getfield 12, 3) := by decide +kernel
theorem dX6_learned_12 : decode cX6_learned 12 = .ok (.getfield 80, 3) := by decide +kernel
theorem dX6_learned_15 : decode cX6_learned 15 = .ok (.iconst 4, 1) := by decide +kernel
theorem dX6_learned_16 : decode cX6_learned 16 = .ok (.iload_n 1, 1) := by decide +kernel
theorem dX6_learned_17 : decode cX6_learned 17 = .ok (.imul, 1) := by decide +kernel
theorem dX6_learned_18 : decode cX6_learned 18 = .ok (.iload_n 2, 1) := by decide +kernel
theorem dX6_learned_19 : decode cX6_learned 19 = .ok (.iadd, 1) := by decide +kernel
theorem dX6_learned_20 : decode cX6_learned 20 = .ok (.invokevirtual 61, 3) := by decide +kernel
theorem dX6_learned_23 : decode cX6_learned 23 = .ok (.ireturn, 1) := by decide +kernel
theorem dX6_angle_0 : decode cX6_angle 0 = .ok (.aload_n 0, 1) := by decide +kernel
theorem dX6_angle_1 : decode cX6_angle 1 = .ok (.iload_n 1, 1) := by decide +kernel
theorem dX6_angle_2 : decode cX6_angle 2 = .ok (.invokevirtual 107, 3) := by decide +kernel
theorem dX6_angle_5 : decode cX6_angle 5 = .ok (.invokestatic 77, 3) := by decide +kernel
theorem dX6_angle_8 : decode cX6_angle 8 = .ok (.iload_n 2, 1) := by decide +kernel
theorem dX6_angle_9 : decode cX6_angle 9 = .ok (.iload_n 3, 1) := by decide +kernel
theorem dX6_angle_10 : decode cX6_angle 10 = .ok (.invokestatic 115, 3) := by decide +kernel
theorem dX6_angle_13 : decode cX6_angle 13 = .ok (.invokestatic 37, 3) := by decide +kernel
theorem dX6_angle_16 : decode cX6_angle 16 = .ok (.iload 4, 2) := by decide +kernel
theorem dX6_angle_18 : decode cX6_angle 18 = .ok (.ifCond .eq 14, 3) := by decide +kernel
theorem dX6_angle_21 : decode cX6_angle 21 = .ok (.aload_n 0, 1) := by decide +kernel
theorem dX6_angle_22 : decode cX6_angle 22 = .ok (.getfield 12, 3) := by decide +kernel
theorem dX6_angle_25 : decode cX6_angle 25 = .ok (.iload_n 1, 1) := by decide +kernel
theorem dX6_angle_26 : decode cX6_angle 26 = .ok (.iload_n 2, 1) := by decide +kernel
theorem dX6_angle_27 : decode cX6_angle 27 = .ok (.iload_n 3, 1) := by decide +kernel
theorem dX6_angle_28 : decode cX6_angle 28 = .ok (.invokevirtual 118, 3) := by decide +kernel
theorem dX6_angle_31 : decode cX6_angle 31 = .ok (.ireturn, 1) := by decide +kernel
theorem dX6_angle_32 : decode cX6_angle 32 = .ok (.aload_n 0, 1) := by decide +kernel
theorem dX6_angle_33 : decode cX6_angle 33 = .ok (.getfield 12, 3) := by decide +kernel
theorem dX6_angle_36 : decode cX6_angle 36 = .ok (.iload_n 1, 1) := by decide +kernel
theorem dX6_angle_37 : decode cX6_angle 37 = .ok (.iload_n 2, 1) := by decide +kernel
theorem dX6_angle_38 : decode cX6_angle 38 = .ok (.iload_n 3, 1) := by decide +kernel
theorem dX6_angle_39 : decode cX6_angle 39 = .ok (.invokestatic 121, 3) := by decide +kernel
theorem dX6_angle_42 : decode cX6_angle 42 = .ok (.invokevirtual 126, 3) := by decide +kernel
theorem dX6_angle_45 : decode cX6_angle 45 = .ok (.ireturn, 1) := by decide +kernel
theorem dX6_status_0 : decode cX6_status 0 = .ok (.iload_n 1, 1) := by decide +kernel
theorem dX6_status_1 : decode cX6_status 1 = .ok (.iconst 0, 1) := by decide +kernel
theorem dX6_status_2 : decode cX6_status 2 = .ok (.iconst 4, 1) := by decide +kernel
theorem dX6_status_3 : decode cX6_status 3 = .ok (.invokestatic 33, 3) := by decide +kernel
theorem dX6_status_6 : decode cX6_status 6 = .ok (.invokestatic 37, 3) := by decide +kernel
theorem dX6_status_9 : decode cX6_status 9 = .ok (.aload_n 0, 1) := by decide +kernel
theorem dX6_status_10 : decode cX6_status 10 = .ok (.getfield 12, 3) := by decide +kernel
theorem dX6_status_13 : decode cX6_status 13 = .ok (.iload_n 1, 1) := by decide +kernel
theorem dX6_status_14 : decode cX6_status 14 = .ok (.invokevirtual 129, 3) := by decide +kernel
theorem dX6_status_17 : decode cX6_status 17 = .ok (.ireturn, 1) := by decide +kernel
theorem dX6_unfairness_0 : decode cX6_unfairness 0 = .ok (.aload_n 0, 1) := by decide +kernel
theorem dX6_unfairness_1 : decode cX6_unfairness 1 = .ok (.getfield 12, 3) := by decide +kernel
theorem dX6_unfairness_4 : decode cX6_unfairness 4 = .ok (.invokevirtual 132, 3) := by decide +kernel
theorem dX6_unfairness_7 : decode cX6_unfairness 7 = .ok (.aload_n 0, 1) := by decide +kernel
theorem dX6_unfairness_8 : decode cX6_unfairness 8 = .ok (.getfield 12, 3) := by decide +kernel
theorem dX6_unfairness_11 : decode cX6_unfairness 11 = .ok (.invokevirtual 136, 3) := by decide +kernel
theorem dX6_unfairness_14 : decode cX6_unfairness 14 = .ok (.isub, 1) := by decide +kernel
theorem dX6_unfairness_15 : decode cX6_unfairness 15 = .ok (.ireturn, 1) := by decide +kernel
theorem dX6_rateBits_0 : decode cX6_rateBits 0 = .ok (.aload_n 0, 1) := by decide +kernel
theorem dX6_rateBits_1 : decode cX6_rateBits 1 = .ok (.getfield 12, 3) := by decide +kernel
theorem dX6_rateBits_4 : decode cX6_rateBits 4 = .ok (.getfield 41, 3) := by decide +kernel
theorem dX6_rateBits_7 : decode cX6_rateBits 7 = .ok (.ifCond .gt 5, 3) := by decide +kernel
theorem dX6_rateBits_10 : decode cX6_rateBits 10 = .ok (.iconst 0, 1) := by decide +kernel
theorem dX6_rateBits_11 : decode cX6_rateBits 11 = .ok (.ireturn, 1) := by decide +kernel
theorem dX6_rateBits_12 : decode cX6_rateBits 12 = .ok (.aload_n 0, 1) := by decide +kernel
theorem dX6_rateBits_13 : decode cX6_rateBits 13 = .ok (.getfield 12, 3) := by decide +kernel
theorem dX6_rateBits_16 : decode cX6_rateBits 16 = .ok (.invokevirtual 139, 3) := by decide +kernel
theorem dX6_rateBits_19 : decode cX6_rateBits 19 = .ok (.i2f, 1) := by decide +kernel
theorem dX6_rateBits_20 : decode cX6_rateBits 20 = .ok (.aload_n 0, 1) := by decide +kernel
theorem dX6_rateBits_21 : decode cX6_rateBits 21 = .ok (.getfield 12, 3) := by decide +kernel
theorem dX6_rateBits_24 : decode cX6_rateBits 24 = .ok (.getfield 41, 3) := by decide +kernel
theorem dX6_rateBits_27 : decode cX6_rateBits 27 = .ok (.i2f, 1) := by decide +kernel
theorem dX6_rateBits_28 : decode cX6_rateBits 28 = .ok (.fdiv, 1) := by decide +kernel
theorem dX6_rateBits_29 : decode cX6_rateBits 29 = .ok (.invokestatic 142, 3) := by decide +kernel
theorem dX6_rateBits_32 : decode cX6_rateBits 32 = .ok (.ireturn, 1) := by decide +kernel
theorem dX6_octane_0 : decode cX6_octane 0 = .ok (.iload_n 1, 1) := by decide +kernel
theorem dX6_octane_1 : decode cX6_octane 1 = .ok (.iconst 0, 1) := by decide +kernel
theorem dX6_octane_2 : decode cX6_octane 2 = .ok (.iconst 3, 1) := by decide +kernel
theorem dX6_octane_3 : decode cX6_octane 3 = .ok (.invokestatic 33, 3) := by decide +kernel
theorem dX6_octane_6 : decode cX6_octane 6 = .ok (.invokestatic 77, 3) := by decide +kernel
theorem dX6_octane_9 : decode cX6_octane 9 = .ok (.iconst 0, 1) := by decide +kernel
theorem dX6_octane_10 : decode cX6_octane 10 = .ok (.istore_n 2, 1) := by decide +kernel
theorem dX6_octane_11 : decode cX6_octane 11 = .ok (.iconst 0, 1) := by decide +kernel
theorem dX6_octane_12 : decode cX6_octane 12 = .ok (.istore_n 3, 1) := by decide +kernel
theorem dX6_octane_13 : decode cX6_octane 13 = .ok (.iconst 0, 1) := by decide +kernel
theorem dX6_octane_14 : decode cX6_octane 14 = .ok (.istore 4, 2) := by decide +kernel
theorem dX6_octane_16 : decode cX6_octane 16 = .ok (.iload 4, 2) := by decide +kernel
theorem dX6_octane_18 : decode cX6_octane 18 = .ok (.bipush 6, 2) := by decide +kernel
theorem dX6_octane_20 : decode cX6_octane 20 = .ok (.if_icmp .ge 40, 3) := by decide +kernel
theorem dX6_octane_23 : decode cX6_octane 23 = .ok (.aload_n 0, 1) := by decide +kernel
theorem dX6_octane_24 : decode cX6_octane 24 = .ok (.getfield 12, 3) := by decide +kernel
theorem dX6_octane_27 : decode cX6_octane 27 = .ok (.getfield 80, 3) := by decide +kernel
theorem dX6_octane_30 : decode cX6_octane 30 = .ok (.iconst 4, 1) := by decide +kernel
theorem dX6_octane_31 : decode cX6_octane 31 = .ok (.iload 4, 2) := by decide +kernel
theorem dX6_octane_33 : decode cX6_octane 33 = .ok (.imul, 1) := by decide +kernel
theorem dX6_octane_34 : decode cX6_octane 34 = .ok (.iload_n 1, 1) := by decide +kernel
theorem dX6_octane_35 : decode cX6_octane 35 = .ok (.iadd, 1) := by decide +kernel
theorem dX6_octane_36 : decode cX6_octane 36 = .ok (.invokevirtual 61, 3) := by decide +kernel
theorem dX6_octane_39 : decode cX6_octane 39 = .ok (.istore 5, 2) := by decide +kernel
theorem dX6_octane_41 : decode cX6_octane 41 = .ok (.iload 5, 2) := by decide +kernel
theorem dX6_octane_43 : decode cX6_octane 43 = .ok (.ifCond .le 11, 3) := by decide +kernel
theorem dX6_octane_46 : decode cX6_octane 46 = .ok (.iload_n 2, 1) := by decide +kernel
theorem dX6_octane_47 : decode cX6_octane 47 = .ok (.iload 5, 2) := by decide +kernel
theorem dX6_octane_49 : decode cX6_octane 49 = .ok (.iadd, 1) := by decide +kernel
theorem dX6_octane_50 : decode cX6_octane 50 = .ok (.istore_n 2, 1) := by decide +kernel
theorem dX6_octane_51 : decode cX6_octane 51 = .ok (.iinc 3 1, 3) := by decide +kernel
theorem dX6_octane_54 : decode cX6_octane 54 = .ok (.iinc 4 1, 3) := by decide +kernel
theorem dX6_octane_57 : decode cX6_octane 57 = .ok (.goto (-41), 3) := by decide +kernel
theorem dX6_octane_60 : decode cX6_octane 60 = .ok (.iload_n 3, 1) := by decide +kernel
theorem dX6_octane_61 : decode cX6_octane 61 = .ok (.ifCond .le 19, 3) := by decide +kernel
theorem dX6_octane_64 : decode cX6_octane 64 = .ok (.ldc2_w 146, 3) := by decide +kernel
theorem dX6_octane_67 : decode cX6_octane 67 = .ok (.iload_n 2, 1) := by decide +kernel
theorem dX6_octane_68 : decode cX6_octane 68 = .ok (.i2d, 1) := by decide +kernel
theorem dX6_octane_69 : decode cX6_octane 69 = .ok (.iload_n 3, 1) := by decide +kernel
theorem dX6_octane_70 : decode cX6_octane 70 = .ok (.i2d, 1) := by decide +kernel
theorem dX6_octane_71 : decode cX6_octane 71 = .ok (.ddiv, 1) := by decide +kernel
theorem dX6_octane_72 : decode cX6_octane 72 = .ok (.ldc2_w 148, 3) := by decide +kernel
theorem dX6_octane_75 : decode cX6_octane 75 = .ok (.ddiv, 1) := by decide +kernel
theorem dX6_octane_76 : decode cX6_octane 76 = .ok (.dsub, 1) := by decide +kernel
theorem dX6_octane_77 : decode cX6_octane 77 = .ok (.goto 6, 3) := by decide +kernel
theorem dX6_octane_80 : decode cX6_octane 80 = .ok (.ldc2_w 146, 3) := by decide +kernel
theorem dX6_octane_83 : decode cX6_octane 83 = .ok (.dreturn, 1) := by decide +kernel
theorem dX6_extreme_0 : decode cX6_extreme 0 = .ok (.iload_n 1, 1) := by decide +kernel
theorem dX6_extreme_1 : decode cX6_extreme 1 = .ok (.iconst 0, 1) := by decide +kernel
theorem dX6_extreme_2 : decode cX6_extreme 2 = .ok (.iload_n 2, 1) := by decide +kernel
theorem dX6_extreme_3 : decode cX6_extreme 3 = .ok (.ifCond .eq 8, 3) := by decide +kernel
theorem dX6_extreme_6 : decode cX6_extreme 6 = .ok (.bipush 6, 2) := by decide +kernel
theorem dX6_extreme_8 : decode cX6_extreme 8 = .ok (.goto 4, 3) := by decide +kernel
theorem dX6_extreme_11 : decode cX6_extreme 11 = .ok (.iconst 4, 1) := by decide +kernel
theorem dX6_extreme_12 : decode cX6_extreme 12 = .ok (.iconst 1, 1) := by decide +kernel
theorem dX6_extreme_13 : decode cX6_extreme 13 = .ok (.isub, 1) := by decide +kernel
theorem dX6_extreme_14 : decode cX6_extreme 14 = .ok (.invokestatic 33, 3) := by decide +kernel
theorem dX6_extreme_17 : decode cX6_extreme 17 = .ok (.invokestatic 77, 3) := by decide +kernel
theorem dX6_extreme_20 : decode cX6_extreme 20 = .ok (.iload_n 2, 1) := by decide +kernel
theorem dX6_extreme_21 : decode cX6_extreme 21 = .ok (.ifCond .eq 9, 3) := by decide +kernel
theorem dX6_extreme_24 : decode cX6_extreme 24 = .ok (.iconst 4, 1) := by decide +kernel
theorem dX6_extreme_25 : decode cX6_extreme 25 = .ok (.iload_n 1, 1) := by decide +kernel
theorem dX6_extreme_26 : decode cX6_extreme 26 = .ok (.imul, 1) := by decide +kernel
theorem dX6_extreme_27 : decode cX6_extreme 27 = .ok (.goto 4, 3) := by decide +kernel
theorem dX6_extreme_30 : decode cX6_extreme 30 = .ok (.iload_n 1, 1) := by decide +kernel
theorem dX6_extreme_31 : decode cX6_extreme 31 = .ok (.istore 4, 2) := by decide +kernel
theorem dX6_extreme_33 : decode cX6_extreme 33 = .ok (.iload_n 2, 1) := by decide +kernel
theorem dX6_extreme_34 : decode cX6_extreme 34 = .ok (.ifCond .eq 7, 3) := by decide +kernel
theorem dX6_extreme_37 : decode cX6_extreme 37 = .ok (.iconst 1, 1) := by decide +kernel
theorem dX6_extreme_38 : decode cX6_extreme 38 = .ok (.goto 4, 3) := by decide +kernel
theorem dX6_extreme_41 : decode cX6_extreme 41 = .ok (.iconst 4, 1) := by decide +kernel
theorem dX6_extreme_42 : decode cX6_extreme 42 = .ok (.istore 5, 2) := by decide +kernel
theorem dX6_extreme_44 : decode cX6_extreme 44 = .ok (.iload_n 2, 1) := by decide +kernel
theorem dX6_extreme_45 : decode cX6_extreme 45 = .ok (.ifCond .eq 7, 3) := by decide +kernel
theorem dX6_extreme_48 : decode cX6_extreme 48 = .ok (.iconst 4, 1) := by decide +kernel
theorem dX6_extreme_49 : decode cX6_extreme 49 = .ok (.goto 5, 3) := by decide +kernel
theorem dX6_extreme_52 : decode cX6_extreme 52 = .ok (.bipush 6, 2) := by decide +kernel
theorem dX6_extreme_54 : decode cX6_extreme 54 = .ok (.istore 6, 2) := by decide +kernel
theorem dX6_extreme_56 : decode cX6_extreme 56 = .ok (.aload_n 0, 1) := by decide +kernel
theorem dX6_extreme_57 : decode cX6_extreme 57 = .ok (.getfield 12, 3) := by decide +kernel
theorem dX6_extreme_60 : decode cX6_extreme 60 = .ok (.getfield 80, 3) := by decide +kernel
theorem dX6_extreme_63 : decode cX6_extreme 63 = .ok (.iload 4, 2) := by decide +kernel
theorem dX6_extreme_65 : decode cX6_extreme 65 = .ok (.invokevirtual 61, 3) := by decide +kernel
theorem dX6_extreme_68 : decode cX6_extreme 68 = .ok (.istore 7, 2) := by decide +kernel
theorem dX6_extreme_70 : decode cX6_extreme 70 = .ok (.iconst 1, 1) := by decide +kernel
theorem dX6_extreme_71 : decode cX6_extreme 71 = .ok (.istore 8, 2) := by decide +kernel
theorem dX6_extreme_73 : decode cX6_extreme 73 = .ok (.iload 8, 2) := by decide +kernel
theorem dX6_extreme_75 : decode cX6_extreme 75 = .ok (.iload 6, 2) := by decide +kernel
theorem dX6_extreme_77 : decode cX6_extreme 77 = .ok (.if_icmp .ge 52, 3) := by decide +kernel
theorem dX6_extreme_80 : decode cX6_extreme 80 = .ok (.aload_n 0, 1) := by decide +kernel
theorem dX6_extreme_81 : decode cX6_extreme 81 = .ok (.getfield 12, 3) := by decide +kernel
theorem dX6_extreme_84 : decode cX6_extreme 84 = .ok (.getfield 80, 3) := by decide +kernel
theorem dX6_extreme_87 : decode cX6_extreme 87 = .ok (.iload 4, 2) := by decide +kernel
theorem dX6_extreme_89 : decode cX6_extreme 89 = .ok (.iload 8, 2) := by decide +kernel
theorem dX6_extreme_91 : decode cX6_extreme 91 = .ok (.iload 5, 2) := by decide +kernel
theorem dX6_extreme_93 : decode cX6_extreme 93 = .ok (.imul, 1) := by decide +kernel
theorem dX6_extreme_94 : decode cX6_extreme 94 = .ok (.iadd, 1) := by decide +kernel
theorem dX6_extreme_95 : decode cX6_extreme 95 = .ok (.invokevirtual 61, 3) := by decide +kernel
theorem dX6_extreme_98 : decode cX6_extreme 98 = .ok (.istore 9, 2) := by decide +kernel
theorem dX6_extreme_100 : decode cX6_extreme 100 = .ok (.iload_n 3, 1) := by decide +kernel
theorem dX6_extreme_101 : decode cX6_extreme 101 = .ok (.ifCond .eq 13, 3) := by decide +kernel
theorem dX6_extreme_104 : decode cX6_extreme 104 = .ok (.iload 7, 2) := by decide +kernel
theorem dX6_extreme_106 : decode cX6_extreme 106 = .ok (.iload 9, 2) := by decide +kernel
theorem dX6_extreme_108 : decode cX6_extreme 108 = .ok (.invokestatic 150, 3) := by decide +kernel
theorem dX6_extreme_111 : decode cX6_extreme 111 = .ok (.goto 10, 3) := by decide +kernel
theorem dX6_extreme_114 : decode cX6_extreme 114 = .ok (.iload 7, 2) := by decide +kernel
theorem dX6_extreme_116 : decode cX6_extreme 116 = .ok (.iload 9, 2) := by decide +kernel
theorem dX6_extreme_118 : decode cX6_extreme 118 = .ok (.invokestatic 155, 3) := by decide +kernel
theorem dX6_extreme_121 : decode cX6_extreme 121 = .ok (.istore 7, 2) := by decide +kernel
theorem dX6_extreme_123 : decode cX6_extreme 123 = .ok (.iinc 8 1, 3) := by decide +kernel
theorem dX6_extreme_126 : decode cX6_extreme 126 = .ok (.goto (-53), 3) := by decide +kernel
theorem dX6_extreme_129 : decode cX6_extreme 129 = .ok (.iload 7, 2) := by decide +kernel
theorem dX6_extreme_131 : decode cX6_extreme 131 = .ok (.ireturn, 1) := by decide +kernel
theorem dX6_events_0 : decode cX6_events 0 = .ok (.aload_n 0, 1) := by decide +kernel
theorem dX6_events_1 : decode cX6_events 1 = .ok (.getfield 12, 3) := by decide +kernel
theorem dX6_events_4 : decode cX6_events 4 = .ok (.getfield 158, 3) := by decide +kernel
theorem dX6_events_7 : decode cX6_events 7 = .ok (.invokevirtual 162, 3) := by decide +kernel
theorem dX6_events_10 : decode cX6_events 10 = .ok (.ireturn, 1) := by decide +kernel
theorem dX6_event_0 : decode cX6_event 0 = .ok (.iload_n 1, 1) := by decide +kernel
theorem dX6_event_1 : decode cX6_event 1 = .ok (.iconst 0, 1) := by decide +kernel
theorem dX6_event_2 : decode cX6_event 2 = .ok (.aload_n 0, 1) := by decide +kernel
theorem dX6_event_3 : decode cX6_event 3 = .ok (.getfield 12, 3) := by decide +kernel
theorem dX6_event_6 : decode cX6_event 6 = .ok (.getfield 158, 3) := by decide +kernel
theorem dX6_event_9 : decode cX6_event 9 = .ok (.invokevirtual 162, 3) := by decide +kernel
theorem dX6_event_12 : decode cX6_event 12 = .ok (.iconst 1, 1) := by decide +kernel
theorem dX6_event_13 : decode cX6_event 13 = .ok (.isub, 1) := by decide +kernel
theorem dX6_event_14 : decode cX6_event 14 = .ok (.invokestatic 33, 3) := by decide +kernel
theorem dX6_event_17 : decode cX6_event 17 = .ok (.invokestatic 77, 3) := by decide +kernel
theorem dX6_event_20 : decode cX6_event 20 = .ok (.iload_n 2, 1) := by decide +kernel
theorem dX6_event_21 : decode cX6_event 21 = .ok (.iconst 0, 1) := by decide +kernel
theorem dX6_event_22 : decode cX6_event 22 = .ok (.iconst 2, 1) := by decide +kernel
theorem dX6_event_23 : decode cX6_event 23 = .ok (.invokestatic 33, 3) := by decide +kernel
theorem dX6_event_26 : decode cX6_event 26 = .ok (.invokestatic 37, 3) := by decide +kernel
theorem dX6_event_29 : decode cX6_event 29 = .ok (.aload_n 0, 1) := by decide +kernel
theorem dX6_event_30 : decode cX6_event 30 = .ok (.getfield 12, 3) := by decide +kernel
theorem dX6_event_33 : decode cX6_event 33 = .ok (.getfield 158, 3) := by decide +kernel
theorem dX6_event_36 : decode cX6_event 36 = .ok (.iload_n 1, 1) := by decide +kernel
theorem dX6_event_37 : decode cX6_event 37 = .ok (.iload_n 2, 1) := by decide +kernel
theorem dX6_event_38 : decode cX6_event 38 = .ok (.invokevirtual 167, 3) := by decide +kernel
theorem dX6_event_41 : decode cX6_event 41 = .ok (.ireturn, 1) := by decide +kernel
theorem dX6_eventsOf_0 : decode cX6_eventsOf 0 = .ok (.iload_n 1, 1) := by decide +kernel
theorem dX6_eventsOf_1 : decode cX6_eventsOf 1 = .ok (.iconst 0, 1) := by decide +kernel
theorem dX6_eventsOf_2 : decode cX6_eventsOf 2 = .ok (.iconst 4, 1) := by decide +kernel
theorem dX6_eventsOf_3 : decode cX6_eventsOf 3 = .ok (.invokestatic 33, 3) := by decide +kernel
theorem dX6_eventsOf_6 : decode cX6_eventsOf 6 = .ok (.invokestatic 37, 3) := by decide +kernel
theorem dX6_eventsOf_9 : decode cX6_eventsOf 9 = .ok (.iconst 0, 1) := by decide +kernel
theorem dX6_eventsOf_10 : decode cX6_eventsOf 10 = .ok (.istore_n 2, 1) := by decide +kernel
theorem dX6_eventsOf_11 : decode cX6_eventsOf 11 = .ok (.iconst 0, 1) := by decide +kernel
theorem dX6_eventsOf_12 : decode cX6_eventsOf 12 = .ok (.istore_n 3, 1) := by decide +kernel
theorem dX6_eventsOf_13 : decode cX6_eventsOf 13 = .ok (.iload_n 3, 1) := by decide +kernel
theorem dX6_eventsOf_14 : decode cX6_eventsOf 14 = .ok (.aload_n 0, 1) := by decide +kernel
theorem dX6_eventsOf_15 : decode cX6_eventsOf 15 = .ok (.getfield 12, 3) := by decide +kernel
theorem dX6_eventsOf_18 : decode cX6_eventsOf 18 = .ok (.getfield 158, 3) := by decide +kernel
theorem dX6_eventsOf_21 : decode cX6_eventsOf 21 = .ok (.invokevirtual 162, 3) := by decide +kernel
theorem dX6_eventsOf_24 : decode cX6_eventsOf 24 = .ok (.if_icmp .ge 28, 3) := by decide +kernel
theorem dX6_eventsOf_27 : decode cX6_eventsOf 27 = .ok (.aload_n 0, 1) := by decide +kernel
theorem dX6_eventsOf_28 : decode cX6_eventsOf 28 = .ok (.getfield 12, 3) := by decide +kernel
theorem dX6_eventsOf_31 : decode cX6_eventsOf 31 = .ok (.getfield 158, 3) := by decide +kernel
theorem dX6_eventsOf_34 : decode cX6_eventsOf 34 = .ok (.iload_n 3, 1) := by decide +kernel
theorem dX6_eventsOf_35 : decode cX6_eventsOf 35 = .ok (.iconst 0, 1) := by decide +kernel
theorem dX6_eventsOf_36 : decode cX6_eventsOf 36 = .ok (.invokevirtual 167, 3) := by decide +kernel
theorem dX6_eventsOf_39 : decode cX6_eventsOf 39 = .ok (.iload_n 1, 1) := by decide +kernel
theorem dX6_eventsOf_40 : decode cX6_eventsOf 40 = .ok (.if_icmp .ne 6, 3) := by decide +kernel
theorem dX6_eventsOf_43 : decode cX6_eventsOf 43 = .ok (.iinc 2 1, 3) := by decide +kernel
theorem dX6_eventsOf_46 : decode cX6_eventsOf 46 = .ok (.iinc 3 1, 3) := by decide +kernel
theorem dX6_eventsOf_49 : decode cX6_eventsOf 49 = .ok (.goto (-36), 3) := by decide +kernel
theorem dX6_eventsOf_52 : decode cX6_eventsOf 52 = .ok (.iload_n 2, 1) := by decide +kernel
theorem dX6_eventsOf_53 : decode cX6_eventsOf 53 = .ok (.ireturn, 1) := by decide +kernel
theorem dX6_limit_0 : decode cX6_limit 0 = .ok (.iload_n 1, 1) := by decide +kernel
theorem dX6_limit_1 : decode cX6_limit 1 = .ok (.iconst (-1), 1) := by decide +kernel
theorem dX6_limit_2 : decode cX6_limit 2 = .ok (.if_icmp .eq 11, 3) := by decide +kernel
theorem dX6_limit_5 : decode cX6_limit 5 = .ok (.aload_n 0, 1) := by decide +kernel
theorem dX6_limit_6 : decode cX6_limit 6 = .ok (.iload_n 1, 1) := by decide +kernel
theorem dX6_limit_7 : decode cX6_limit 7 = .ok (.invokevirtual 107, 3) := by decide +kernel
theorem dX6_limit_10 : decode cX6_limit 10 = .ok (.ifCond .eq 7, 3) := by decide +kernel
theorem dX6_limit_13 : decode cX6_limit 13 = .ok (.iconst 1, 1) := by decide +kernel
theorem dX6_limit_14 : decode cX6_limit 14 = .ok (.goto 4, 3) := by decide +kernel
theorem dX6_limit_17 : decode cX6_limit 17 = .ok (.iconst 0, 1) := by decide +kernel
theorem dX6_limit_18 : decode cX6_limit 18 = .ok (.invokestatic 77, 3) := by decide +kernel
theorem dX6_limit_21 : decode cX6_limit 21 = .ok (.iload_n 2, 1) := by decide +kernel
theorem dX6_limit_22 : decode cX6_limit 22 = .ok (.iload_n 3, 1) := by decide +kernel
theorem dX6_limit_23 : decode cX6_limit 23 = .ok (.iload 4, 2) := by decide +kernel
theorem dX6_limit_25 : decode cX6_limit 25 = .ok (.invokestatic 98, 3) := by decide +kernel
theorem dX6_limit_28 : decode cX6_limit 28 = .ok (.invokestatic 37, 3) := by decide +kernel
theorem dX6_limit_31 : decode cX6_limit 31 = .ok (.iload_n 2, 1) := by decide +kernel
theorem dX6_limit_32 : decode cX6_limit 32 = .ok (.iload_n 3, 1) := by decide +kernel
theorem dX6_limit_33 : decode cX6_limit 33 = .ok (.iload 4, 2) := by decide +kernel
theorem dX6_limit_35 : decode cX6_limit 35 = .ok (.invokestatic 170, 3) := by decide +kernel
theorem dX6_limit_38 : decode cX6_limit 38 = .ok (.istore 5, 2) := by decide +kernel
theorem dX6_limit_40 : decode cX6_limit 40 = .ok (.iload_n 1, 1) := by decide +kernel
theorem dX6_limit_41 : decode cX6_limit 41 = .ok (.iconst (-1), 1) := by decide +kernel
theorem dX6_limit_42 : decode cX6_limit 42 = .ok (.if_icmp .ne 6, 3) := by decide +kernel
theorem dX6_limit_45 : decode cX6_limit 45 = .ok (.iload 5, 2) := by decide +kernel
theorem dX6_limit_47 : decode cX6_limit 47 = .ok (.ireturn, 1) := by decide +kernel
theorem dX6_limit_48 : decode cX6_limit 48 = .ok (.aload_n 0, 1) := by decide +kernel
theorem dX6_limit_49 : decode cX6_limit 49 = .ok (.getfield 12, 3) := by decide +kernel
theorem dX6_limit_52 : decode cX6_limit 52 = .ok (.iload_n 1, 1) := by decide +kernel
theorem dX6_limit_53 : decode cX6_limit 53 = .ok (.iload_n 2, 1) := by decide +kernel
theorem dX6_limit_54 : decode cX6_limit 54 = .ok (.iload_n 3, 1) := by decide +kernel
theorem dX6_limit_55 : decode cX6_limit 55 = .ok (.invokevirtual 118, 3) := by decide +kernel
theorem dX6_limit_58 : decode cX6_limit 58 = .ok (.iload 5, 2) := by decide +kernel
theorem dX6_limit_60 : decode cX6_limit 60 = .ok (.isub, 1) := by decide +kernel
theorem dX6_limit_61 : decode cX6_limit 61 = .ok (.ireturn, 1) := by decide +kernel
theorem dX6_quietAfter_0 : decode cX6_quietAfter 0 = .ok (.iload_n 1, 1) := by decide +kernel
theorem dX6_quietAfter_1 : decode cX6_quietAfter 1 = .ok (.iload_n 2, 1) := by decide +kernel
theorem dX6_quietAfter_2 : decode cX6_quietAfter 2 = .ok (.iload_n 3, 1) := by decide +kernel
theorem dX6_quietAfter_3 : decode cX6_quietAfter 3 = .ok (.invokestatic 98, 3) := by decide +kernel
theorem dX6_quietAfter_6 : decode cX6_quietAfter 6 = .ok (.invokestatic 37, 3) := by decide +kernel
theorem dX6_quietAfter_9 : decode cX6_quietAfter 9 = .ok (.aload_n 0, 1) := by decide +kernel
theorem dX6_quietAfter_10 : decode cX6_quietAfter 10 = .ok (.getfield 16, 3) := by decide +kernel
theorem dX6_quietAfter_13 : decode cX6_quietAfter 13 = .ok (.aload_n 0, 1) := by decide +kernel
theorem dX6_quietAfter_14 : decode cX6_quietAfter 14 = .ok (.getfield 12, 3) := by decide +kernel
theorem dX6_quietAfter_17 : decode cX6_quietAfter 17 = .ok (.invokevirtual 173, 3) := by decide +kernel
theorem dX6_quietAfter_20 : decode cX6_quietAfter 20 = .ok (.iconst 5, 1) := by decide +kernel
theorem dX6_quietAfter_21 : decode cX6_quietAfter 21 = .ok (.aload_n 0, 1) := by decide +kernel
theorem dX6_quietAfter_22 : decode cX6_quietAfter 22 = .ok (.getfield 12, 3) := by decide +kernel
theorem dX6_quietAfter_25 : decode cX6_quietAfter 25 = .ok (.getfield 176, 3) := by decide +kernel
theorem dX6_quietAfter_28 : decode cX6_quietAfter 28 = .ok (.imul, 1) := by decide +kernel
theorem dX6_quietAfter_29 : decode cX6_quietAfter 29 = .ok (.istore 4, 2) := by decide +kernel
theorem dX6_quietAfter_31 : decode cX6_quietAfter 31 = .ok (.iconst 0, 1) := by decide +kernel
theorem dX6_quietAfter_32 : decode cX6_quietAfter 32 = .ok (.istore 5, 2) := by decide +kernel
theorem dX6_quietAfter_34 : decode cX6_quietAfter 34 = .ok (.iconst 1, 1) := by decide +kernel
theorem dX6_quietAfter_35 : decode cX6_quietAfter 35 = .ok (.istore 6, 2) := by decide +kernel
theorem dX6_quietAfter_37 : decode cX6_quietAfter 37 = .ok (.iload 6, 2) := by decide +kernel
theorem dX6_quietAfter_39 : decode cX6_quietAfter 39 = .ok (.sipush 1000, 3) := by decide +kernel
theorem dX6_quietAfter_42 : decode cX6_quietAfter 42 = .ok (.if_icmp .gt 43, 3) := by decide +kernel
theorem dX6_quietAfter_45 : decode cX6_quietAfter 45 = .ok (.aload_n 0, 1) := by decide +kernel
theorem dX6_quietAfter_46 : decode cX6_quietAfter 46 = .ok (.getfield 16, 3) := by decide +kernel
theorem dX6_quietAfter_49 : decode cX6_quietAfter 49 = .ok (.iload_n 1, 1) := by decide +kernel
theorem dX6_quietAfter_50 : decode cX6_quietAfter 50 = .ok (.iload_n 2, 1) := by decide +kernel
theorem dX6_quietAfter_51 : decode cX6_quietAfter 51 = .ok (.iload_n 3, 1) := by decide +kernel
theorem dX6_quietAfter_52 : decode cX6_quietAfter 52 = .ok (.invokevirtual 101, 3) := by decide +kernel
theorem dX6_quietAfter_55 : decode cX6_quietAfter 55 = .ok (.iconst 1, 1) := by decide +kernel
theorem dX6_quietAfter_56 : decode cX6_quietAfter 56 = .ok (.if_icmp .ne 7, 3) := by decide +kernel
theorem dX6_quietAfter_59 : decode cX6_quietAfter 59 = .ok (.iconst 0, 1) := by decide +kernel
theorem dX6_quietAfter_60 : decode cX6_quietAfter 60 = .ok (.goto 7, 3) := by decide +kernel
theorem dX6_quietAfter_63 : decode cX6_quietAfter 63 = .ok (.iload 5, 2) := by decide +kernel
theorem dX6_quietAfter_65 : decode cX6_quietAfter 65 = .ok (.iconst 1, 1) := by decide +kernel
theorem dX6_quietAfter_66 : decode cX6_quietAfter 66 = .ok (.iadd, 1) := by decide +kernel
theorem dX6_quietAfter_67 : decode cX6_quietAfter 67 = .ok (.istore 5, 2) := by decide +kernel
theorem dX6_quietAfter_69 : decode cX6_quietAfter 69 = .ok (.iload 5, 2) := by decide +kernel
theorem dX6_quietAfter_71 : decode cX6_quietAfter 71 = .ok (.iload 4, 2) := by decide +kernel
theorem dX6_quietAfter_73 : decode cX6_quietAfter 73 = .ok (.if_icmp .lt 6, 3) := by decide +kernel
theorem dX6_quietAfter_76 : decode cX6_quietAfter 76 = .ok (.iload 6, 2) := by decide +kernel
theorem dX6_quietAfter_78 : decode cX6_quietAfter 78 = .ok (.ireturn, 1) := by decide +kernel
theorem dX6_quietAfter_79 : decode cX6_quietAfter 79 = .ok (.iinc 6 1, 3) := by decide +kernel
theorem dX6_quietAfter_82 : decode cX6_quietAfter 82 = .ok (.goto (-45), 3) := by decide +kernel
theorem dX6_quietAfter_85 : decode cX6_quietAfter 85 = .ok (.iconst (-1), 1) := by decide +kernel
theorem dX6_quietAfter_86 : decode cX6_quietAfter 86 = .ok (.ireturn, 1) := by decide +kernel
theorem dX6_lowestOctane_0 : decode cX6_lowestOctane 0 = .ok (.iload_n 1, 1) := by decide +kernel
theorem dX6_lowestOctane_1 : decode cX6_lowestOctane 1 = .ok (.iload_n 2, 1) := by decide +kernel
theorem dX6_lowestOctane_2 : decode cX6_lowestOctane 2 = .ok (.invokestatic 115, 3) := by decide +kernel
theorem dX6_lowestOctane_5 : decode cX6_lowestOctane 5 = .ok (.ifCond .eq 17, 3) := by decide +kernel
theorem dX6_lowestOctane_8 : decode cX6_lowestOctane 8 = .ok (.iload_n 3, 1) := by decide +kernel
theorem dX6_lowestOctane_9 : decode cX6_lowestOctane 9 = .ok (.iconst 1, 1) := by decide +kernel
theorem dX6_lowestOctane_10 : decode cX6_lowestOctane 10 = .ok (.bipush 100, 2) := by decide +kernel
theorem dX6_lowestOctane_12 : decode cX6_lowestOctane 12 = .ok (.invokestatic 33, 3) := by decide +kernel
theorem dX6_lowestOctane_15 : decode cX6_lowestOctane 15 = .ok (.ifCond .eq 7, 3) := by decide +kernel
theorem dX6_lowestOctane_18 : decode cX6_lowestOctane 18 = .ok (.iconst 1, 1) := by decide +kernel
theorem dX6_lowestOctane_19 : decode cX6_lowestOctane 19 = .ok (.goto 4, 3) := by decide +kernel
theorem dX6_lowestOctane_22 : decode cX6_lowestOctane 22 = .ok (.iconst 0, 1) := by decide +kernel
theorem dX6_lowestOctane_23 : decode cX6_lowestOctane 23 = .ok (.invokestatic 37, 3) := by decide +kernel
theorem dX6_lowestOctane_26 : decode cX6_lowestOctane 26 = .ok (.bipush 80, 2) := by decide +kernel
theorem dX6_lowestOctane_28 : decode cX6_lowestOctane 28 = .ok (.istore 4, 2) := by decide +kernel
theorem dX6_lowestOctane_30 : decode cX6_lowestOctane 30 = .ok (.iload 4, 2) := by decide +kernel
theorem dX6_lowestOctane_32 : decode cX6_lowestOctane 32 = .ok (.bipush 110, 2) := by decide +kernel
theorem dX6_lowestOctane_34 : decode cX6_lowestOctane 34 = .ok (.if_icmp .gt 24, 3) := by decide +kernel
theorem dX6_lowestOctane_37 : decode cX6_lowestOctane 37 = .ok (.aload_n 0, 1) := by decide +kernel
theorem dX6_lowestOctane_38 : decode cX6_lowestOctane 38 = .ok (.iload_n 1, 1) := by decide +kernel
theorem dX6_lowestOctane_39 : decode cX6_lowestOctane 39 = .ok (.iload_n 2, 1) := by decide +kernel
theorem dX6_lowestOctane_40 : decode cX6_lowestOctane 40 = .ok (.iload 4, 2) := by decide +kernel
theorem dX6_lowestOctane_42 : decode cX6_lowestOctane 42 = .ok (.iload_n 3, 1) := by decide +kernel
theorem dX6_lowestOctane_43 : decode cX6_lowestOctane 43 = .ok (.invokevirtual 179, 3) := by decide +kernel
theorem dX6_lowestOctane_46 : decode cX6_lowestOctane 46 = .ok (.ifCond .eq 6, 3) := by decide +kernel
theorem dX6_lowestOctane_49 : decode cX6_lowestOctane 49 = .ok (.iload 4, 2) := by decide +kernel
theorem dX6_lowestOctane_51 : decode cX6_lowestOctane 51 = .ok (.ireturn, 1) := by decide +kernel
theorem dX6_lowestOctane_52 : decode cX6_lowestOctane 52 = .ok (.iinc 4 1, 3) := by decide +kernel
theorem dX6_lowestOctane_55 : decode cX6_lowestOctane 55 = .ok (.goto (-25), 3) := by decide +kernel
theorem dX6_lowestOctane_58 : decode cX6_lowestOctane 58 = .ok (.iconst (-1), 1) := by decide +kernel
theorem dX6_lowestOctane_59 : decode cX6_lowestOctane 59 = .ok (.ireturn, 1) := by decide +kernel
theorem dX6_staysQuiet_0 : decode cX6_staysQuiet 0 = .ok (.aload_n 0, 1) := by decide +kernel
theorem dX6_staysQuiet_1 : decode cX6_staysQuiet 1 = .ok (.getfield 16, 3) := by decide +kernel
theorem dX6_staysQuiet_4 : decode cX6_staysQuiet 4 = .ok (.aload_n 0, 1) := by decide +kernel
theorem dX6_staysQuiet_5 : decode cX6_staysQuiet 5 = .ok (.getfield 12, 3) := by decide +kernel
theorem dX6_staysQuiet_8 : decode cX6_staysQuiet 8 = .ok (.invokevirtual 173, 3) := by decide +kernel
theorem dX6_staysQuiet_11 : decode cX6_staysQuiet 11 = .ok (.iconst 0, 1) := by decide +kernel
theorem dX6_staysQuiet_12 : decode cX6_staysQuiet 12 = .ok (.istore 5, 2) := by decide +kernel
theorem dX6_staysQuiet_14 : decode cX6_staysQuiet 14 = .ok (.iload 5, 2) := by decide +kernel
theorem dX6_staysQuiet_16 : decode cX6_staysQuiet 16 = .ok (.iload 4, 2) := by decide +kernel
theorem dX6_staysQuiet_18 : decode cX6_staysQuiet 18 = .ok (.if_icmp .ge 25, 3) := by decide +kernel
theorem dX6_staysQuiet_21 : decode cX6_staysQuiet 21 = .ok (.aload_n 0, 1) := by decide +kernel
theorem dX6_staysQuiet_22 : decode cX6_staysQuiet 22 = .ok (.getfield 16, 3) := by decide +kernel
theorem dX6_staysQuiet_25 : decode cX6_staysQuiet 25 = .ok (.iload_n 1, 1) := by decide +kernel
theorem dX6_staysQuiet_26 : decode cX6_staysQuiet 26 = .ok (.iload_n 2, 1) := by decide +kernel
theorem dX6_staysQuiet_27 : decode cX6_staysQuiet 27 = .ok (.iload_n 3, 1) := by decide +kernel
theorem dX6_staysQuiet_28 : decode cX6_staysQuiet 28 = .ok (.invokevirtual 101, 3) := by decide +kernel
theorem dX6_staysQuiet_31 : decode cX6_staysQuiet 31 = .ok (.iconst 1, 1) := by decide +kernel
theorem dX6_staysQuiet_32 : decode cX6_staysQuiet 32 = .ok (.if_icmp .ne 5, 3) := by decide +kernel
theorem dX6_staysQuiet_35 : decode cX6_staysQuiet 35 = .ok (.iconst 0, 1) := by decide +kernel
theorem dX6_staysQuiet_36 : decode cX6_staysQuiet 36 = .ok (.ireturn, 1) := by decide +kernel
theorem dX6_staysQuiet_37 : decode cX6_staysQuiet 37 = .ok (.iinc 5 1, 3) := by decide +kernel
theorem dX6_staysQuiet_40 : decode cX6_staysQuiet 40 = .ok (.goto (-26), 3) := by decide +kernel
theorem dX6_staysQuiet_43 : decode cX6_staysQuiet 43 = .ok (.iconst 1, 1) := by decide +kernel
theorem dX6_staysQuiet_44 : decode cX6_staysQuiet 44 = .ok (.ireturn, 1) := by decide +kernel
theorem dX6_append_0 : decode cX6_append 0 = .ok (.iload_n 1, 1) := by decide +kernel
theorem dX6_append_1 : decode cX6_append 1 = .ok (.iconst 0, 1) := by decide +kernel
theorem dX6_append_2 : decode cX6_append 2 = .ok (.bipush 127, 2) := by decide +kernel
theorem dX6_append_4 : decode cX6_append 4 = .ok (.invokestatic 33, 3) := by decide +kernel
theorem dX6_append_7 : decode cX6_append 7 = .ok (.invokestatic 37, 3) := by decide +kernel
theorem dX6_append_10 : decode cX6_append 10 = .ok (.aload_n 0, 1) := by decide +kernel
theorem dX6_append_11 : decode cX6_append 11 = .ok (.getfield 29, 3) := by decide +kernel
theorem dX6_append_14 : decode cX6_append 14 = .ok (.invokevirtual 183, 3) := by decide +kernel
theorem dX6_append_17 : decode cX6_append 17 = .ok (.bipush 120, 2) := by decide +kernel
theorem dX6_append_19 : decode cX6_append 19 = .ok (.if_icmp .ge 7, 3) := by decide +kernel
theorem dX6_append_22 : decode cX6_append 22 = .ok (.iconst 1, 1) := by decide +kernel
theorem dX6_append_23 : decode cX6_append 23 = .ok (.goto 4, 3) := by decide +kernel
theorem dX6_append_26 : decode cX6_append 26 = .ok (.iconst 0, 1) := by decide +kernel
theorem dX6_append_27 : decode cX6_append 27 = .ok (.invokestatic 184, 3) := by decide +kernel
theorem dX6_append_30 : decode cX6_append 30 = .ok (.aload_n 0, 1) := by decide +kernel
theorem dX6_append_31 : decode cX6_append 31 = .ok (.getfield 29, 3) := by decide +kernel
theorem dX6_append_34 : decode cX6_append 34 = .ok (.iload_n 1, 1) := by decide +kernel
theorem dX6_append_35 : decode cX6_append 35 = .ok (.invokevirtual 187, 3) := by decide +kernel
theorem dX6_append_38 : decode cX6_append 38 = .ok (.aload_n 0, 1) := by decide +kernel
theorem dX6_append_39 : decode cX6_append 39 = .ok (.getfield 29, 3) := by decide +kernel
theorem dX6_append_42 : decode cX6_append 42 = .ok (.invokevirtual 183, 3) := by decide +kernel
theorem dX6_append_45 : decode cX6_append 45 = .ok (.ireturn, 1) := by decide +kernel
theorem dX6_clearText_0 : decode cX6_clearText 0 = .ok (.aload_n 0, 1) := by decide +kernel
theorem dX6_clearText_1 : decode cX6_clearText 1 = .ok (.getfield 29, 3) := by decide +kernel
theorem dX6_clearText_4 : decode cX6_clearText 4 = .ok (.invokevirtual 183, 3) := by decide +kernel
theorem dX6_clearText_7 : decode cX6_clearText 7 = .ok (.istore_n 1, 1) := by decide +kernel
theorem dX6_clearText_8 : decode cX6_clearText 8 = .ok (.aload_n 0, 1) := by decide +kernel
theorem dX6_clearText_9 : decode cX6_clearText 9 = .ok (.getfield 29, 3) := by decide +kernel
theorem dX6_clearText_12 : decode cX6_clearText 12 = .ok (.invokevirtual 190, 3) := by decide +kernel
theorem dX6_clearText_15 : decode cX6_clearText 15 = .ok (.iload_n 1, 1) := by decide +kernel
theorem dX6_clearText_16 : decode cX6_clearText 16 = .ok (.ireturn, 1) := by decide +kernel
theorem dX6_replay_0 : decode cX6_replay 0 = .ok (.aload_n 0, 1) := by decide +kernel
theorem dX6_replay_1 : decode cX6_replay 1 = .ok (.getfield 29, 3) := by decide +kernel
theorem dX6_replay_4 : decode cX6_replay 4 = .ok (.invokevirtual 193, 3) := by decide +kernel
theorem dX6_replay_7 : decode cX6_replay 7 = .ok (.istore_n 1, 1) := by decide +kernel
theorem dX6_replay_8 : decode cX6_replay 8 = .ok (.iload_n 1, 1) := by decide +kernel
theorem dX6_replay_9 : decode cX6_replay 9 = .ok (.iconst (-1), 1) := by decide +kernel
theorem dX6_replay_10 : decode cX6_replay 10 = .ok (.if_icmp .eq 8, 3) := by decide +kernel
theorem dX6_replay_13 : decode cX6_replay 13 = .ok (.bipush (-10), 2) := by decide +kernel
theorem dX6_replay_15 : decode cX6_replay 15 = .ok (.iload_n 1, 1) := by decide +kernel
theorem dX6_replay_16 : decode cX6_replay 16 = .ok (.isub, 1) := by decide +kernel
theorem dX6_replay_17 : decode cX6_replay 17 = .ok (.ireturn, 1) := by decide +kernel
theorem dX6_replay_18 : decode cX6_replay 18 = .ok (.aload_n 0, 1) := by decide +kernel
theorem dX6_replay_19 : decode cX6_replay 19 = .ok (.invokevirtual 196, 3) := by decide +kernel
theorem dX6_replay_22 : decode cX6_replay 22 = .ok (.istore_n 2, 1) := by decide +kernel
theorem dX6_replay_23 : decode cX6_replay 23 = .ok (.iload_n 2, 1) := by decide +kernel
theorem dX6_replay_24 : decode cX6_replay 24 = .ok (.iconst (-1), 1) := by decide +kernel
theorem dX6_replay_25 : decode cX6_replay 25 = .ok (.if_icmp .eq 9, 3) := by decide +kernel
theorem dX6_replay_28 : decode cX6_replay 28 = .ok (.sipush (-1000), 3) := by decide +kernel
theorem dX6_replay_31 : decode cX6_replay 31 = .ok (.iload_n 2, 1) := by decide +kernel
theorem dX6_replay_32 : decode cX6_replay 32 = .ok (.isub, 1) := by decide +kernel
theorem dX6_replay_33 : decode cX6_replay 33 = .ok (.ireturn, 1) := by decide +kernel
theorem dX6_replay_34 : decode cX6_replay 34 = .ok (.aload_n 0, 1) := by decide +kernel
theorem dX6_replay_35 : decode cX6_replay 35 = .ok (.getfield 22, 3) := by decide +kernel
theorem dX6_replay_38 : decode cX6_replay 38 = .ok (.aload_n 0, 1) := by decide +kernel
theorem dX6_replay_39 : decode cX6_replay 39 = .ok (.getfield 12, 3) := by decide +kernel
theorem dX6_replay_42 : decode cX6_replay 42 = .ok (.invokevirtual 45, 3) := by decide +kernel
theorem dX6_replay_45 : decode cX6_replay 45 = .ok (.iconst 0, 1) := by decide +kernel
theorem dX6_replay_46 : decode cX6_replay 46 = .ok (.istore_n 3, 1) := by decide +kernel
theorem dX6_replay_47 : decode cX6_replay 47 = .ok (.iload_n 3, 1) := by decide +kernel
theorem dX6_replay_48 : decode cX6_replay 48 = .ok (.aload_n 0, 1) := by decide +kernel
theorem dX6_replay_49 : decode cX6_replay 49 = .ok (.getfield 29, 3) := by decide +kernel
theorem dX6_replay_52 : decode cX6_replay 52 = .ok (.invokevirtual 199, 3) := by decide +kernel
theorem dX6_replay_55 : decode cX6_replay 55 = .ok (.if_icmp .ge 44, 3) := by decide +kernel
theorem dX6_replay_58 : decode cX6_replay 58 = .ok (.aload_n 0, 1) := by decide +kernel
theorem dX6_replay_59 : decode cX6_replay 59 = .ok (.getfield 12, 3) := by decide +kernel
theorem dX6_replay_62 : decode cX6_replay 62 = .ok (.aload_n 0, 1) := by decide +kernel
theorem dX6_replay_63 : decode cX6_replay 63 = .ok (.getfield 29, 3) := by decide +kernel
theorem dX6_replay_66 : decode cX6_replay 66 = .ok (.iload_n 3, 1) := by decide +kernel
theorem dX6_replay_67 : decode cX6_replay 67 = .ok (.iconst 0, 1) := by decide +kernel
theorem dX6_replay_68 : decode cX6_replay 68 = .ok (.invokevirtual 202, 3) := by decide +kernel
theorem dX6_replay_71 : decode cX6_replay 71 = .ok (.aload_n 0, 1) := by decide +kernel
theorem dX6_replay_72 : decode cX6_replay 72 = .ok (.getfield 29, 3) := by decide +kernel
theorem dX6_replay_75 : decode cX6_replay 75 = .ok (.iload_n 3, 1) := by decide +kernel
theorem dX6_replay_76 : decode cX6_replay 76 = .ok (.iconst 1, 1) := by decide +kernel
theorem dX6_replay_77 : decode cX6_replay 77 = .ok (.invokevirtual 202, 3) := by decide +kernel
theorem dX6_replay_80 : decode cX6_replay 80 = .ok (.aload_n 0, 1) := by decide +kernel
theorem dX6_replay_81 : decode cX6_replay 81 = .ok (.getfield 29, 3) := by decide +kernel
theorem dX6_replay_84 : decode cX6_replay 84 = .ok (.iload_n 3, 1) := by decide +kernel
theorem dX6_replay_85 : decode cX6_replay 85 = .ok (.iconst 2, 1) := by decide +kernel
theorem dX6_replay_86 : decode cX6_replay 86 = .ok (.invokevirtual 202, 3) := by decide +kernel
theorem dX6_replay_89 : decode cX6_replay 89 = .ok (.invokevirtual 94, 3) := by decide +kernel
theorem dX6_replay_92 : decode cX6_replay 92 = .ok (.pop, 1) := by decide +kernel
theorem dX6_replay_93 : decode cX6_replay 93 = .ok (.iinc 3 1, 3) := by decide +kernel
theorem dX6_replay_96 : decode cX6_replay 96 = .ok (.goto (-49), 3) := by decide +kernel
theorem dX6_replay_99 : decode cX6_replay 99 = .ok (.aload_n 0, 1) := by decide +kernel
theorem dX6_replay_100 : decode cX6_replay 100 = .ok (.getfield 29, 3) := by decide +kernel
theorem dX6_replay_103 : decode cX6_replay 103 = .ok (.invokevirtual 199, 3) := by decide +kernel
theorem dX6_replay_106 : decode cX6_replay 106 = .ok (.ireturn, 1) := by decide +kernel
theorem dX6_firstWrongFiring_0 : decode cX6_firstWrongFiring 0 = .ok (.iconst 0, 1) := by decide +kernel
theorem dX6_firstWrongFiring_1 : decode cX6_firstWrongFiring 1 = .ok (.istore_n 1, 1) := by decide +kernel
theorem dX6_firstWrongFiring_2 : decode cX6_firstWrongFiring 2 = .ok (.iload_n 1, 1) := by decide +kernel
theorem dX6_firstWrongFiring_3 : decode cX6_firstWrongFiring 3 = .ok (.aload_n 0, 1) := by decide +kernel
theorem dX6_firstWrongFiring_4 : decode cX6_firstWrongFiring 4 = .ok (.getfield 29, 3) := by decide +kernel
theorem dX6_firstWrongFiring_7 : decode cX6_firstWrongFiring 7 = .ok (.invokevirtual 199, 3) := by decide +kernel
theorem dX6_firstWrongFiring_10 : decode cX6_firstWrongFiring 10 = .ok (.if_icmp .ge 44, 3) := by decide +kernel
theorem dX6_firstWrongFiring_13 : decode cX6_firstWrongFiring 13 = .ok (.aload_n 0, 1) := by decide +kernel
theorem dX6_firstWrongFiring_14 : decode cX6_firstWrongFiring 14 = .ok (.getfield 29, 3) := by decide +kernel
theorem dX6_firstWrongFiring_17 : decode cX6_firstWrongFiring 17 = .ok (.iload_n 1, 1) := by decide +kernel
theorem dX6_firstWrongFiring_18 : decode cX6_firstWrongFiring 18 = .ok (.iconst 0, 1) := by decide +kernel
theorem dX6_firstWrongFiring_19 : decode cX6_firstWrongFiring 19 = .ok (.invokevirtual 202, 3) := by decide +kernel
theorem dX6_firstWrongFiring_22 : decode cX6_firstWrongFiring 22 = .ok (.aload_n 0, 1) := by decide +kernel
theorem dX6_firstWrongFiring_23 : decode cX6_firstWrongFiring 23 = .ok (.getfield 29, 3) := by decide +kernel
theorem dX6_firstWrongFiring_26 : decode cX6_firstWrongFiring 26 = .ok (.iload_n 1, 1) := by decide +kernel
theorem dX6_firstWrongFiring_27 : decode cX6_firstWrongFiring 27 = .ok (.iconst 1, 1) := by decide +kernel
theorem dX6_firstWrongFiring_28 : decode cX6_firstWrongFiring 28 = .ok (.invokevirtual 202, 3) := by decide +kernel
theorem dX6_firstWrongFiring_31 : decode cX6_firstWrongFiring 31 = .ok (.aload_n 0, 1) := by decide +kernel
theorem dX6_firstWrongFiring_32 : decode cX6_firstWrongFiring 32 = .ok (.getfield 29, 3) := by decide +kernel
theorem dX6_firstWrongFiring_35 : decode cX6_firstWrongFiring 35 = .ok (.iload_n 1, 1) := by decide +kernel
theorem dX6_firstWrongFiring_36 : decode cX6_firstWrongFiring 36 = .ok (.iconst 2, 1) := by decide +kernel
theorem dX6_firstWrongFiring_37 : decode cX6_firstWrongFiring 37 = .ok (.invokevirtual 202, 3) := by decide +kernel
theorem dX6_firstWrongFiring_40 : decode cX6_firstWrongFiring 40 = .ok (.invokestatic 91, 3) := by decide +kernel
theorem dX6_firstWrongFiring_43 : decode cX6_firstWrongFiring 43 = .ok (.ifCond .ne 5, 3) := by decide +kernel
theorem dX6_firstWrongFiring_46 : decode cX6_firstWrongFiring 46 = .ok (.iload_n 1, 1) := by decide +kernel
theorem dX6_firstWrongFiring_47 : decode cX6_firstWrongFiring 47 = .ok (.ireturn, 1) := by decide +kernel
theorem dX6_firstWrongFiring_48 : decode cX6_firstWrongFiring 48 = .ok (.iinc 1 1, 3) := by decide +kernel
theorem dX6_firstWrongFiring_51 : decode cX6_firstWrongFiring 51 = .ok (.goto (-49), 3) := by decide +kernel
theorem dX6_firstWrongFiring_54 : decode cX6_firstWrongFiring 54 = .ok (.iconst (-1), 1) := by decide +kernel
theorem dX6_firstWrongFiring_55 : decode cX6_firstWrongFiring 55 = .ok (.ireturn, 1) := by decide +kernel
theorem dX6_undo_0 : decode cX6_undo 0 = .ok (.aload_n 0, 1) := by decide +kernel
theorem dX6_undo_1 : decode cX6_undo 1 = .ok (.getfield 22, 3) := by decide +kernel
theorem dX6_undo_4 : decode cX6_undo 4 = .ok (.invokevirtual 205, 3) := by decide +kernel
theorem dX6_undo_7 : decode cX6_undo 7 = .ok (.ifCond .le 7, 3) := by decide +kernel
theorem dX6_undo_10 : decode cX6_undo 10 = .ok (.iconst 1, 1) := by decide +kernel
theorem dX6_undo_11 : decode cX6_undo 11 = .ok (.goto 4, 3) := by decide +kernel
theorem dX6_undo_14 : decode cX6_undo 14 = .ok (.iconst 0, 1) := by decide +kernel
theorem dX6_undo_15 : decode cX6_undo 15 = .ok (.invokestatic 184, 3) := by decide +kernel
theorem dX6_undo_18 : decode cX6_undo 18 = .ok (.aload_n 0, 1) := by decide +kernel
theorem dX6_undo_19 : decode cX6_undo 19 = .ok (.getfield 22, 3) := by decide +kernel
theorem dX6_undo_22 : decode cX6_undo 22 = .ok (.aload_n 0, 1) := by decide +kernel
theorem dX6_undo_23 : decode cX6_undo 23 = .ok (.getfield 12, 3) := by decide +kernel
theorem dX6_undo_26 : decode cX6_undo 26 = .ok (.invokevirtual 206, 3) := by decide +kernel
theorem dX6_undo_29 : decode cX6_undo 29 = .ok (.aload_n 0, 1) := by decide +kernel
theorem dX6_undo_30 : decode cX6_undo 30 = .ok (.getfield 22, 3) := by decide +kernel
theorem dX6_undo_33 : decode cX6_undo 33 = .ok (.invokevirtual 205, 3) := by decide +kernel
theorem dX6_undo_36 : decode cX6_undo 36 = .ok (.ireturn, 1) := by decide +kernel
theorem dX6_digest_0 : decode cX6_digest 0 = .ok (.ldc2_w 209, 3) := by decide +kernel
theorem dX6_digest_3 : decode cX6_digest 3 = .ok (.lstore_n 1, 1) := by decide +kernel
theorem dX6_digest_4 : decode cX6_digest 4 = .ok (.lload_n 1, 1) := by decide +kernel
theorem dX6_digest_5 : decode cX6_digest 5 = .ok (.aload_n 0, 1) := by decide +kernel
theorem dX6_digest_6 : decode cX6_digest 6 = .ok (.getfield 29, 3) := by decide +kernel
theorem dX6_digest_9 : decode cX6_digest 9 = .ok (.invokevirtual 183, 3) := by decide +kernel
theorem dX6_digest_12 : decode cX6_digest 12 = .ok (.i2l, 1) := by decide +kernel
theorem dX6_digest_13 : decode cX6_digest 13 = .ok (.invokestatic 211, 3) := by decide +kernel
theorem dX6_digest_16 : decode cX6_digest 16 = .ok (.lstore_n 1, 1) := by decide +kernel
theorem dX6_digest_17 : decode cX6_digest 17 = .ok (.iconst 0, 1) := by decide +kernel
theorem dX6_digest_18 : decode cX6_digest 18 = .ok (.istore_n 3, 1) := by decide +kernel
theorem dX6_digest_19 : decode cX6_digest 19 = .ok (.iload_n 3, 1) := by decide +kernel
theorem dX6_digest_20 : decode cX6_digest 20 = .ok (.bipush 8, 2) := by decide +kernel
theorem dX6_digest_22 : decode cX6_digest 22 = .ok (.if_icmp .gt 23, 3) := by decide +kernel
theorem dX6_digest_25 : decode cX6_digest 25 = .ok (.lload_n 1, 1) := by decide +kernel
theorem dX6_digest_26 : decode cX6_digest 26 = .ok (.aload_n 0, 1) := by decide +kernel
theorem dX6_digest_27 : decode cX6_digest 27 = .ok (.getfield 12, 3) := by decide +kernel
theorem dX6_digest_30 : decode cX6_digest 30 = .ok (.iload_n 3, 1) := by decide +kernel
theorem dX6_digest_31 : decode cX6_digest 31 = .ok (.invokevirtual 71, 3) := by decide +kernel
theorem dX6_digest_34 : decode cX6_digest 34 = .ok (.i2l, 1) := by decide +kernel
theorem dX6_digest_35 : decode cX6_digest 35 = .ok (.invokestatic 211, 3) := by decide +kernel
theorem dX6_digest_38 : decode cX6_digest 38 = .ok (.lstore_n 1, 1) := by decide +kernel
theorem dX6_digest_39 : decode cX6_digest 39 = .ok (.iinc 3 1, 3) := by decide +kernel
theorem dX6_digest_42 : decode cX6_digest 42 = .ok (.goto (-23), 3) := by decide +kernel
theorem dX6_digest_45 : decode cX6_digest 45 = .ok (.lload_n 1, 1) := by decide +kernel
theorem dX6_digest_46 : decode cX6_digest 46 = .ok (.aload_n 0, 1) := by decide +kernel
theorem dX6_digest_47 : decode cX6_digest 47 = .ok (.getfield 12, 3) := by decide +kernel
theorem dX6_digest_50 : decode cX6_digest 50 = .ok (.getfield 41, 3) := by decide +kernel
theorem dX6_digest_53 : decode cX6_digest 53 = .ok (.i2l, 1) := by decide +kernel
theorem dX6_digest_54 : decode cX6_digest 54 = .ok (.invokestatic 211, 3) := by decide +kernel
theorem dX6_digest_57 : decode cX6_digest 57 = .ok (.lstore_n 1, 1) := by decide +kernel
theorem dX6_digest_58 : decode cX6_digest 58 = .ok (.lload_n 1, 1) := by decide +kernel
theorem dX6_digest_59 : decode cX6_digest 59 = .ok (.aload_n 0, 1) := by decide +kernel
theorem dX6_digest_60 : decode cX6_digest 60 = .ok (.getfield 12, 3) := by decide +kernel
theorem dX6_digest_63 : decode cX6_digest 63 = .ok (.getfield 104, 3) := by decide +kernel
theorem dX6_digest_66 : decode cX6_digest 66 = .ok (.i2l, 1) := by decide +kernel
theorem dX6_digest_67 : decode cX6_digest 67 = .ok (.invokestatic 211, 3) := by decide +kernel
theorem dX6_digest_70 : decode cX6_digest 70 = .ok (.lstore_n 1, 1) := by decide +kernel
theorem dX6_digest_71 : decode cX6_digest 71 = .ok (.lload_n 1, 1) := by decide +kernel
theorem dX6_digest_72 : decode cX6_digest 72 = .ok (.aload_n 0, 1) := by decide +kernel
theorem dX6_digest_73 : decode cX6_digest 73 = .ok (.getfield 12, 3) := by decide +kernel
theorem dX6_digest_76 : decode cX6_digest 76 = .ok (.getfield 88, 3) := by decide +kernel
theorem dX6_digest_79 : decode cX6_digest 79 = .ok (.i2l, 1) := by decide +kernel
theorem dX6_digest_80 : decode cX6_digest 80 = .ok (.invokestatic 211, 3) := by decide +kernel
theorem dX6_digest_83 : decode cX6_digest 83 = .ok (.lstore_n 1, 1) := by decide +kernel
theorem dX6_digest_84 : decode cX6_digest 84 = .ok (.lload_n 1, 1) := by decide +kernel
theorem dX6_digest_85 : decode cX6_digest 85 = .ok (.aload_n 0, 1) := by decide +kernel
theorem dX6_digest_86 : decode cX6_digest 86 = .ok (.getfield 12, 3) := by decide +kernel
theorem dX6_digest_89 : decode cX6_digest 89 = .ok (.getfield 83, 3) := by decide +kernel
theorem dX6_digest_92 : decode cX6_digest 92 = .ok (.ifCond .eq 7, 3) := by decide +kernel
theorem dX6_digest_95 : decode cX6_digest 95 = .ok (.lconst 1, 1) := by decide +kernel
theorem dX6_digest_96 : decode cX6_digest 96 = .ok (.goto 4, 3) := by decide +kernel
theorem dX6_digest_99 : decode cX6_digest 99 = .ok (.lconst 0, 1) := by decide +kernel
theorem dX6_digest_100 : decode cX6_digest 100 = .ok (.invokestatic 211, 3) := by decide +kernel
theorem dX6_digest_103 : decode cX6_digest 103 = .ok (.lstore_n 1, 1) := by decide +kernel
theorem dX6_digest_104 : decode cX6_digest 104 = .ok (.iconst 0, 1) := by decide +kernel
theorem dX6_digest_105 : decode cX6_digest 105 = .ok (.istore_n 3, 1) := by decide +kernel
theorem dX6_digest_106 : decode cX6_digest 106 = .ok (.iload_n 3, 1) := by decide +kernel
theorem dX6_digest_107 : decode cX6_digest 107 = .ok (.iconst 4, 1) := by decide +kernel
theorem dX6_digest_108 : decode cX6_digest 108 = .ok (.if_icmp .gt 23, 3) := by decide +kernel
theorem dX6_digest_111 : decode cX6_digest 111 = .ok (.lload_n 1, 1) := by decide +kernel
theorem dX6_digest_112 : decode cX6_digest 112 = .ok (.aload_n 0, 1) := by decide +kernel
theorem dX6_digest_113 : decode cX6_digest 113 = .ok (.getfield 12, 3) := by decide +kernel
theorem dX6_digest_116 : decode cX6_digest 116 = .ok (.iload_n 3, 1) := by decide +kernel
theorem dX6_digest_117 : decode cX6_digest 117 = .ok (.invokevirtual 129, 3) := by decide +kernel
theorem dX6_digest_120 : decode cX6_digest 120 = .ok (.i2l, 1) := by decide +kernel
theorem dX6_digest_121 : decode cX6_digest 121 = .ok (.invokestatic 211, 3) := by decide +kernel
theorem dX6_digest_124 : decode cX6_digest 124 = .ok (.lstore_n 1, 1) := by decide +kernel
theorem dX6_digest_125 : decode cX6_digest 125 = .ok (.iinc 3 1, 3) := by decide +kernel
theorem dX6_digest_128 : decode cX6_digest 128 = .ok (.goto (-22), 3) := by decide +kernel
theorem dX6_digest_131 : decode cX6_digest 131 = .ok (.iconst 0, 1) := by decide +kernel
theorem dX6_digest_132 : decode cX6_digest 132 = .ok (.istore_n 3, 1) := by decide +kernel
theorem dX6_digest_133 : decode cX6_digest 133 = .ok (.iload_n 3, 1) := by decide +kernel
theorem dX6_digest_134 : decode cX6_digest 134 = .ok (.aload_n 0, 1) := by decide +kernel
theorem dX6_digest_135 : decode cX6_digest 135 = .ok (.getfield 12, 3) := by decide +kernel
theorem dX6_digest_138 : decode cX6_digest 138 = .ok (.getfield 176, 3) := by decide +kernel
theorem dX6_digest_141 : decode cX6_digest 141 = .ok (.if_icmp .ge 40, 3) := by decide +kernel
theorem dX6_digest_144 : decode cX6_digest 144 = .ok (.iconst 0, 1) := by decide +kernel
theorem dX6_digest_145 : decode cX6_digest 145 = .ok (.istore 4, 2) := by decide +kernel
theorem dX6_digest_147 : decode cX6_digest 147 = .ok (.iload 4, 2) := by decide +kernel
theorem dX6_digest_149 : decode cX6_digest 149 = .ok (.iconst 4, 1) := by decide +kernel
theorem dX6_digest_150 : decode cX6_digest 150 = .ok (.if_icmp .gt 25, 3) := by decide +kernel
theorem dX6_digest_153 : decode cX6_digest 153 = .ok (.lload_n 1, 1) := by decide +kernel
theorem dX6_digest_154 : decode cX6_digest 154 = .ok (.aload_n 0, 1) := by decide +kernel
theorem dX6_digest_155 : decode cX6_digest 155 = .ok (.getfield 12, 3) := by decide +kernel
theorem dX6_digest_158 : decode cX6_digest 158 = .ok (.iload_n 3, 1) := by decide +kernel
theorem dX6_digest_159 : decode cX6_digest 159 = .ok (.iload 4, 2) := by decide +kernel
theorem dX6_digest_161 : decode cX6_digest 161 = .ok (.invokevirtual 111, 3) := by decide +kernel
theorem dX6_digest_164 : decode cX6_digest 164 = .ok (.i2l, 1) := by decide +kernel
theorem dX6_digest_165 : decode cX6_digest 165 = .ok (.invokestatic 211, 3) := by decide +kernel
theorem dX6_digest_168 : decode cX6_digest 168 = .ok (.lstore_n 1, 1) := by decide +kernel
theorem dX6_digest_169 : decode cX6_digest 169 = .ok (.iinc 4 1, 3) := by decide +kernel
theorem dX6_digest_172 : decode cX6_digest 172 = .ok (.goto (-25), 3) := by decide +kernel
theorem dX6_digest_175 : decode cX6_digest 175 = .ok (.iinc 3 1, 3) := by decide +kernel
theorem dX6_digest_178 : decode cX6_digest 178 = .ok (.goto (-45), 3) := by decide +kernel
theorem dX6_digest_181 : decode cX6_digest 181 = .ok (.iconst 0, 1) := by decide +kernel
theorem dX6_digest_182 : decode cX6_digest 182 = .ok (.istore_n 3, 1) := by decide +kernel
theorem dX6_digest_183 : decode cX6_digest 183 = .ok (.iload_n 3, 1) := by decide +kernel
theorem dX6_digest_184 : decode cX6_digest 184 = .ok (.bipush 24, 2) := by decide +kernel
theorem dX6_digest_186 : decode cX6_digest 186 = .ok (.if_icmp .ge 26, 3) := by decide +kernel
theorem dX6_digest_189 : decode cX6_digest 189 = .ok (.lload_n 1, 1) := by decide +kernel
theorem dX6_digest_190 : decode cX6_digest 190 = .ok (.aload_n 0, 1) := by decide +kernel
theorem dX6_digest_191 : decode cX6_digest 191 = .ok (.getfield 12, 3) := by decide +kernel
theorem dX6_digest_194 : decode cX6_digest 194 = .ok (.getfield 80, 3) := by decide +kernel
theorem dX6_digest_197 : decode cX6_digest 197 = .ok (.iload_n 3, 1) := by decide +kernel
theorem dX6_digest_198 : decode cX6_digest 198 = .ok (.invokevirtual 61, 3) := by decide +kernel
theorem dX6_digest_201 : decode cX6_digest 201 = .ok (.i2l, 1) := by decide +kernel
theorem dX6_digest_202 : decode cX6_digest 202 = .ok (.invokestatic 211, 3) := by decide +kernel
theorem dX6_digest_205 : decode cX6_digest 205 = .ok (.lstore_n 1, 1) := by decide +kernel
theorem dX6_digest_206 : decode cX6_digest 206 = .ok (.iinc 3 1, 3) := by decide +kernel
theorem dX6_digest_209 : decode cX6_digest 209 = .ok (.goto (-26), 3) := by decide +kernel
theorem dX6_digest_212 : decode cX6_digest 212 = .ok (.lload_n 1, 1) := by decide +kernel
theorem dX6_digest_213 : decode cX6_digest 213 = .ok (.aload_n 0, 1) := by decide +kernel
theorem dX6_digest_214 : decode cX6_digest 214 = .ok (.getfield 12, 3) := by decide +kernel
theorem dX6_digest_217 : decode cX6_digest 217 = .ok (.getfield 158, 3) := by decide +kernel
theorem dX6_digest_220 : decode cX6_digest 220 = .ok (.invokevirtual 162, 3) := by decide +kernel
theorem dX6_digest_223 : decode cX6_digest 223 = .ok (.i2l, 1) := by decide +kernel
theorem dX6_digest_224 : decode cX6_digest 224 = .ok (.invokestatic 211, 3) := by decide +kernel
theorem dX6_digest_227 : decode cX6_digest 227 = .ok (.lstore_n 1, 1) := by decide +kernel
theorem dX6_digest_228 : decode cX6_digest 228 = .ok (.iconst 0, 1) := by decide +kernel
theorem dX6_digest_229 : decode cX6_digest 229 = .ok (.istore_n 3, 1) := by decide +kernel
theorem dX6_digest_230 : decode cX6_digest 230 = .ok (.iload_n 3, 1) := by decide +kernel
theorem dX6_digest_231 : decode cX6_digest 231 = .ok (.aload_n 0, 1) := by decide +kernel
theorem dX6_digest_232 : decode cX6_digest 232 = .ok (.getfield 12, 3) := by decide +kernel
theorem dX6_digest_235 : decode cX6_digest 235 = .ok (.getfield 158, 3) := by decide +kernel
theorem dX6_digest_238 : decode cX6_digest 238 = .ok (.invokevirtual 162, 3) := by decide +kernel
theorem dX6_digest_241 : decode cX6_digest 241 = .ok (.if_icmp .ge 43, 3) := by decide +kernel
theorem dX6_digest_244 : decode cX6_digest 244 = .ok (.iconst 0, 1) := by decide +kernel
theorem dX6_digest_245 : decode cX6_digest 245 = .ok (.istore 4, 2) := by decide +kernel
theorem dX6_digest_247 : decode cX6_digest 247 = .ok (.iload 4, 2) := by decide +kernel
theorem dX6_digest_249 : decode cX6_digest 249 = .ok (.iconst 2, 1) := by decide +kernel
theorem dX6_digest_250 : decode cX6_digest 250 = .ok (.if_icmp .gt 28, 3) := by decide +kernel
theorem dX6_digest_253 : decode cX6_digest 253 = .ok (.lload_n 1, 1) := by decide +kernel
theorem dX6_digest_254 : decode cX6_digest 254 = .ok (.aload_n 0, 1) := by decide +kernel
theorem dX6_digest_255 : decode cX6_digest 255 = .ok (.getfield 12, 3) := by decide +kernel
theorem dX6_digest_258 : decode cX6_digest 258 = .ok (.getfield 158, 3) := by decide +kernel
theorem dX6_digest_261 : decode cX6_digest 261 = .ok (.iload_n 3, 1) := by decide +kernel
theorem dX6_digest_262 : decode cX6_digest 262 = .ok (.iload 4, 2) := by decide +kernel
theorem dX6_digest_264 : decode cX6_digest 264 = .ok (.invokevirtual 167, 3) := by decide +kernel
theorem dX6_digest_267 : decode cX6_digest 267 = .ok (.i2l, 1) := by decide +kernel
theorem dX6_digest_268 : decode cX6_digest 268 = .ok (.invokestatic 211, 3) := by decide +kernel
theorem dX6_digest_271 : decode cX6_digest 271 = .ok (.lstore_n 1, 1) := by decide +kernel
theorem dX6_digest_272 : decode cX6_digest 272 = .ok (.iinc 4 1, 3) := by decide +kernel
theorem dX6_digest_275 : decode cX6_digest 275 = .ok (.goto (-28), 3) := by decide +kernel
theorem dX6_digest_278 : decode cX6_digest 278 = .ok (.iinc 3 1, 3) := by decide +kernel
theorem dX6_digest_281 : decode cX6_digest 281 = .ok (.goto (-51), 3) := by decide +kernel
theorem dX6_digest_284 : decode cX6_digest 284 = .ok (.lload_n 1, 1) := by decide +kernel
theorem dX6_digest_285 : decode cX6_digest 285 = .ok (.aload_n 0, 1) := by decide +kernel
theorem dX6_digest_286 : decode cX6_digest 286 = .ok (.getfield 22, 3) := by decide +kernel
theorem dX6_digest_289 : decode cX6_digest 289 = .ok (.invokevirtual 205, 3) := by decide +kernel
theorem dX6_digest_292 : decode cX6_digest 292 = .ok (.i2l, 1) := by decide +kernel
theorem dX6_digest_293 : decode cX6_digest 293 = .ok (.invokestatic 211, 3) := by decide +kernel
theorem dX6_digest_296 : decode cX6_digest 296 = .ok (.lreturn, 1) := by decide +kernel
theorem dX6_mix_0 : decode cX6_mix 0 = .ok (.ldc2_w 215, 3) := by decide +kernel
theorem dX6_mix_3 : decode cX6_mix 3 = .ok (.lload_n 0, 1) := by decide +kernel
theorem dX6_mix_4 : decode cX6_mix 4 = .ok (.lmul, 1) := by decide +kernel
theorem dX6_mix_5 : decode cX6_mix 5 = .ok (.lload_n 2, 1) := by decide +kernel
theorem dX6_mix_6 : decode cX6_mix 6 = .ok (.ladd, 1) := by decide +kernel
theorem dX6_mix_7 : decode cX6_mix 7 = .ok (.lreturn, 1) := by decide +kernel
theorem dX6_bitsOfShare_0 : decode cX6_bitsOfShare 0 = .ok (.fload_n 0, 1) := by decide +kernel
theorem dX6_bitsOfShare_1 : decode cX6_bitsOfShare 1 = .ok (.fconst 0, 1) := by decide +kernel
theorem dX6_bitsOfShare_2 : decode cX6_bitsOfShare 2 = .ok (.fcmp .l, 1) := by decide +kernel
theorem dX6_bitsOfShare_3 : decode cX6_bitsOfShare 3 = .ok (.ifCond .gt 5, 3) := by decide +kernel
theorem dX6_bitsOfShare_6 : decode cX6_bitsOfShare 6 = .ok (.iconst 0, 1) := by decide +kernel
theorem dX6_bitsOfShare_7 : decode cX6_bitsOfShare 7 = .ok (.ireturn, 1) := by decide +kernel
theorem dX6_bitsOfShare_8 : decode cX6_bitsOfShare 8 = .ok (.fload_n 0, 1) := by decide +kernel
theorem dX6_bitsOfShare_9 : decode cX6_bitsOfShare 9 = .ok (.fstore_n 1, 1) := by decide +kernel
theorem dX6_bitsOfShare_10 : decode cX6_bitsOfShare 10 = .ok (.bipush 127, 2) := by decide +kernel
theorem dX6_bitsOfShare_12 : decode cX6_bitsOfShare 12 = .ok (.istore_n 2, 1) := by decide +kernel
theorem dX6_bitsOfShare_13 : decode cX6_bitsOfShare 13 = .ok (.fload_n 1, 1) := by decide +kernel
theorem dX6_bitsOfShare_14 : decode cX6_bitsOfShare 14 = .ok (.fconst 1, 1) := by decide +kernel
theorem dX6_bitsOfShare_15 : decode cX6_bitsOfShare 15 = .ok (.fcmp .g, 1) := by decide +kernel
theorem dX6_bitsOfShare_16 : decode cX6_bitsOfShare 16 = .ok (.ifCond .ge 18, 3) := by decide +kernel
theorem dX6_bitsOfShare_19 : decode cX6_bitsOfShare 19 = .ok (.iload_n 2, 1) := by decide +kernel
theorem dX6_bitsOfShare_20 : decode cX6_bitsOfShare 20 = .ok (.iconst 1, 1) := by decide +kernel
theorem dX6_bitsOfShare_21 : decode cX6_bitsOfShare 21 = .ok (.if_icmp .le 13, 3) := by decide +kernel
theorem dX6_bitsOfShare_24 : decode cX6_bitsOfShare 24 = .ok (.fload_n 1, 1) := by decide +kernel
theorem dX6_bitsOfShare_25 : decode cX6_bitsOfShare 25 = .ok (.fconst 2, 1) := by decide +kernel
theorem dX6_bitsOfShare_26 : decode cX6_bitsOfShare 26 = .ok (.fmul, 1) := by decide +kernel
theorem dX6_bitsOfShare_27 : decode cX6_bitsOfShare 27 = .ok (.fstore_n 1, 1) := by decide +kernel
theorem dX6_bitsOfShare_28 : decode cX6_bitsOfShare 28 = .ok (.iinc 2 (-1), 3) := by decide +kernel
theorem dX6_bitsOfShare_31 : decode cX6_bitsOfShare 31 = .ok (.goto (-18), 3) := by decide +kernel
theorem dX6_bitsOfShare_34 : decode cX6_bitsOfShare 34 = .ok (.iload_n 2, 1) := by decide +kernel
theorem dX6_bitsOfShare_35 : decode cX6_bitsOfShare 35 = .ok (.ldc 217, 2) := by decide +kernel
theorem dX6_bitsOfShare_37 : decode cX6_bitsOfShare 37 = .ok (.imul, 1) := by decide +kernel
theorem dX6_bitsOfShare_38 : decode cX6_bitsOfShare 38 = .ok (.fload_n 1, 1) := by decide +kernel
theorem dX6_bitsOfShare_39 : decode cX6_bitsOfShare 39 = .ok (.fconst 1, 1) := by decide +kernel
theorem dX6_bitsOfShare_40 : decode cX6_bitsOfShare 40 = .ok (.fsub, 1) := by decide +kernel
theorem dX6_bitsOfShare_41 : decode cX6_bitsOfShare 41 = .ok (.ldc 218, 2) := by decide +kernel
theorem dX6_bitsOfShare_43 : decode cX6_bitsOfShare 43 = .ok (.fmul, 1) := by decide +kernel
theorem dX6_bitsOfShare_44 : decode cX6_bitsOfShare 44 = .ok (.f2i, 1) := by decide +kernel
theorem dX6_bitsOfShare_45 : decode cX6_bitsOfShare 45 = .ok (.iadd, 1) := by decide +kernel
theorem dX6_bitsOfShare_46 : decode cX6_bitsOfShare 46 = .ok (.ireturn, 1) := by decide +kernel
theorem dX6_within_0 : decode cX6_within 0 = .ok (.iload_n 0, 1) := by decide +kernel
theorem dX6_within_1 : decode cX6_within 1 = .ok (.iload_n 1, 1) := by decide +kernel
theorem dX6_within_2 : decode cX6_within 2 = .ok (.if_icmp .lt 12, 3) := by decide +kernel
theorem dX6_within_5 : decode cX6_within 5 = .ok (.iload_n 0, 1) := by decide +kernel
theorem dX6_within_6 : decode cX6_within 6 = .ok (.iload_n 2, 1) := by decide +kernel
theorem dX6_within_7 : decode cX6_within 7 = .ok (.if_icmp .gt 7, 3) := by decide +kernel
theorem dX6_within_10 : decode cX6_within 10 = .ok (.iconst 1, 1) := by decide +kernel
theorem dX6_within_11 : decode cX6_within 11 = .ok (.goto 4, 3) := by decide +kernel
theorem dX6_within_14 : decode cX6_within 14 = .ok (.iconst 0, 1) := by decide +kernel
theorem dX6_within_15 : decode cX6_within 15 = .ok (.ireturn, 1) := by decide +kernel
theorem dX6_isSetting_0 : decode cX6_isSetting 0 = .ok (.iload_n 0, 1) := by decide +kernel
theorem dX6_isSetting_1 : decode cX6_isSetting 1 = .ok (.ifCond .lt 40, 3) := by decide +kernel
theorem dX6_isSetting_4 : decode cX6_isSetting 4 = .ok (.iload_n 0, 1) := by decide +kernel
theorem dX6_isSetting_5 : decode cX6_isSetting 5 = .ok (.getstatic 219, 3) := by decide +kernel
theorem dX6_isSetting_8 : decode cX6_isSetting 8 = .ok (.arraylength, 1) := by decide +kernel
theorem dX6_isSetting_9 : decode cX6_isSetting 9 = .ok (.if_icmp .ge 32, 3) := by decide +kernel
theorem dX6_isSetting_12 : decode cX6_isSetting 12 = .ok (.iload_n 0, 1) := by decide +kernel
theorem dX6_isSetting_13 : decode cX6_isSetting 13 = .ok (.getstatic 223, 3) := by decide +kernel
theorem dX6_isSetting_16 : decode cX6_isSetting 16 = .ok (.arraylength, 1) := by decide +kernel
theorem dX6_isSetting_17 : decode cX6_isSetting 17 = .ok (.if_icmp .ge 24, 3) := by decide +kernel
theorem dX6_isSetting_20 : decode cX6_isSetting 20 = .ok (.iload_n 1, 1) := by decide +kernel
theorem dX6_isSetting_21 : decode cX6_isSetting 21 = .ok (.getstatic 219, 3) := by decide +kernel
theorem dX6_isSetting_24 : decode cX6_isSetting 24 = .ok (.iload_n 0, 1) := by decide +kernel
theorem dX6_isSetting_25 : decode cX6_isSetting 25 = .ok (.iaload, 1) := by decide +kernel
theorem dX6_isSetting_26 : decode cX6_isSetting 26 = .ok (.getstatic 223, 3) := by decide +kernel
theorem dX6_isSetting_29 : decode cX6_isSetting 29 = .ok (.iload_n 0, 1) := by decide +kernel
theorem dX6_isSetting_30 : decode cX6_isSetting 30 = .ok (.iaload, 1) := by decide +kernel
theorem dX6_isSetting_31 : decode cX6_isSetting 31 = .ok (.invokestatic 33, 3) := by decide +kernel
theorem dX6_isSetting_34 : decode cX6_isSetting 34 = .ok (.ifCond .eq 7, 3) := by decide +kernel
theorem dX6_isSetting_37 : decode cX6_isSetting 37 = .ok (.iconst 1, 1) := by decide +kernel
theorem dX6_isSetting_38 : decode cX6_isSetting 38 = .ok (.goto 4, 3) := by decide +kernel
theorem dX6_isSetting_41 : decode cX6_isSetting 41 = .ok (.iconst 0, 1) := by decide +kernel
theorem dX6_isSetting_42 : decode cX6_isSetting 42 = .ok (.ireturn, 1) := by decide +kernel
theorem dX6_isCell_0 : decode cX6_isCell 0 = .ok (.iload_n 0, 1) := by decide +kernel
theorem dX6_isCell_1 : decode cX6_isCell 1 = .ok (.iconst 0, 1) := by decide +kernel
theorem dX6_isCell_2 : decode cX6_isCell 2 = .ok (.iconst 5, 1) := by decide +kernel
theorem dX6_isCell_3 : decode cX6_isCell 3 = .ok (.invokestatic 33, 3) := by decide +kernel
theorem dX6_isCell_6 : decode cX6_isCell 6 = .ok (.ifCond .eq 16, 3) := by decide +kernel
theorem dX6_isCell_9 : decode cX6_isCell 9 = .ok (.iload_n 1, 1) := by decide +kernel
theorem dX6_isCell_10 : decode cX6_isCell 10 = .ok (.iconst 0, 1) := by decide +kernel
theorem dX6_isCell_11 : decode cX6_isCell 11 = .ok (.iconst 3, 1) := by decide +kernel
theorem dX6_isCell_12 : decode cX6_isCell 12 = .ok (.invokestatic 33, 3) := by decide +kernel
theorem dX6_isCell_15 : decode cX6_isCell 15 = .ok (.ifCond .eq 7, 3) := by decide +kernel
theorem dX6_isCell_18 : decode cX6_isCell 18 = .ok (.iconst 1, 1) := by decide +kernel
theorem dX6_isCell_19 : decode cX6_isCell 19 = .ok (.goto 4, 3) := by decide +kernel
theorem dX6_isCell_22 : decode cX6_isCell 22 = .ok (.iconst 0, 1) := by decide +kernel
theorem dX6_isCell_23 : decode cX6_isCell 23 = .ok (.ireturn, 1) := by decide +kernel
theorem dX6_isOperation_0 : decode cX6_isOperation 0 = .ok (.iload_n 0, 1) := by decide +kernel
theorem dX6_isOperation_1 : decode cX6_isOperation 1 = .ok (.sipush 500, 3) := by decide +kernel
theorem dX6_isOperation_4 : decode cX6_isOperation 4 = .ok (.sipush 7000, 3) := by decide +kernel
theorem dX6_isOperation_7 : decode cX6_isOperation 7 = .ok (.invokestatic 33, 3) := by decide +kernel
theorem dX6_isOperation_10 : decode cX6_isOperation 10 = .ok (.ifCond .eq 17, 3) := by decide +kernel
theorem dX6_isOperation_13 : decode cX6_isOperation 13 = .ok (.iload_n 1, 1) := by decide +kernel
theorem dX6_isOperation_14 : decode cX6_isOperation 14 = .ok (.iconst 0, 1) := by decide +kernel
theorem dX6_isOperation_15 : decode cX6_isOperation 15 = .ok (.bipush 100, 2) := by decide +kernel
theorem dX6_isOperation_17 : decode cX6_isOperation 17 = .ok (.invokestatic 33, 3) := by decide +kernel
theorem dX6_isOperation_20 : decode cX6_isOperation 20 = .ok (.ifCond .eq 7, 3) := by decide +kernel
theorem dX6_isOperation_23 : decode cX6_isOperation 23 = .ok (.iconst 1, 1) := by decide +kernel
theorem dX6_isOperation_24 : decode cX6_isOperation 24 = .ok (.goto 4, 3) := by decide +kernel
theorem dX6_isOperation_27 : decode cX6_isOperation 27 = .ok (.iconst 0, 1) := by decide +kernel
theorem dX6_isOperation_28 : decode cX6_isOperation 28 = .ok (.ireturn, 1) := by decide +kernel
theorem dX6_isFiring_0 : decode cX6_isFiring 0 = .ok (.iload_n 0, 1) := by decide +kernel
theorem dX6_isFiring_1 : decode cX6_isFiring 1 = .ok (.iload_n 1, 1) := by decide +kernel
theorem dX6_isFiring_2 : decode cX6_isFiring 2 = .ok (.invokestatic 115, 3) := by decide +kernel
theorem dX6_isFiring_5 : decode cX6_isFiring 5 = .ok (.ifCond .eq 18, 3) := by decide +kernel
theorem dX6_isFiring_8 : decode cX6_isFiring 8 = .ok (.iload_n 2, 1) := by decide +kernel
theorem dX6_isFiring_9 : decode cX6_isFiring 9 = .ok (.iconst 0, 1) := by decide +kernel
theorem dX6_isFiring_10 : decode cX6_isFiring 10 = .ok (.sipush 20000, 3) := by decide +kernel
theorem dX6_isFiring_13 : decode cX6_isFiring 13 = .ok (.invokestatic 33, 3) := by decide +kernel
theorem dX6_isFiring_16 : decode cX6_isFiring 16 = .ok (.ifCond .eq 7, 3) := by decide +kernel
theorem dX6_isFiring_19 : decode cX6_isFiring 19 = .ok (.iconst 1, 1) := by decide +kernel
theorem dX6_isFiring_20 : decode cX6_isFiring 20 = .ok (.goto 4, 3) := by decide +kernel
theorem dX6_isFiring_23 : decode cX6_isFiring 23 = .ok (.iconst 0, 1) := by decide +kernel
theorem dX6_isFiring_24 : decode cX6_isFiring 24 = .ok (.ireturn, 1) := by decide +kernel
theorem dX6_isDriving_0 : decode cX6_isDriving 0 = .ok (.iload_n 0, 1) := by decide +kernel
theorem dX6_isDriving_1 : decode cX6_isDriving 1 = .ok (.iload_n 1, 1) := by decide +kernel
theorem dX6_isDriving_2 : decode cX6_isDriving 2 = .ok (.invokestatic 115, 3) := by decide +kernel
theorem dX6_isDriving_5 : decode cX6_isDriving 5 = .ok (.ifCond .eq 18, 3) := by decide +kernel
theorem dX6_isDriving_8 : decode cX6_isDriving 8 = .ok (.iload_n 2, 1) := by decide +kernel
theorem dX6_isDriving_9 : decode cX6_isDriving 9 = .ok (.bipush 80, 2) := by decide +kernel
theorem dX6_isDriving_11 : decode cX6_isDriving 11 = .ok (.bipush 110, 2) := by decide +kernel
theorem dX6_isDriving_13 : decode cX6_isDriving 13 = .ok (.invokestatic 33, 3) := by decide +kernel
theorem dX6_isDriving_16 : decode cX6_isDriving 16 = .ok (.ifCond .eq 7, 3) := by decide +kernel
theorem dX6_isDriving_19 : decode cX6_isDriving 19 = .ok (.iconst 1, 1) := by decide +kernel
theorem dX6_isDriving_20 : decode cX6_isDriving 20 = .ok (.goto 4, 3) := by decide +kernel
theorem dX6_isDriving_23 : decode cX6_isDriving 23 = .ok (.iconst 0, 1) := by decide +kernel
theorem dX6_isDriving_24 : decode cX6_isDriving 24 = .ok (.ireturn, 1) := by decide +kernel
theorem dX6_isCylinder_0 : decode cX6_isCylinder 0 = .ok (.iload_n 1, 1) := by decide +kernel
theorem dX6_isCylinder_1 : decode cX6_isCylinder 1 = .ok (.iconst 0, 1) := by decide +kernel
theorem dX6_isCylinder_2 : decode cX6_isCylinder 2 = .ok (.aload_n 0, 1) := by decide +kernel
theorem dX6_isCylinder_3 : decode cX6_isCylinder 3 = .ok (.getfield 12, 3) := by decide +kernel
theorem dX6_isCylinder_6 : decode cX6_isCylinder 6 = .ok (.getfield 176, 3) := by decide +kernel
theorem dX6_isCylinder_9 : decode cX6_isCylinder 9 = .ok (.iconst 1, 1) := by decide +kernel
theorem dX6_isCylinder_10 : decode cX6_isCylinder 10 = .ok (.isub, 1) := by decide +kernel
theorem dX6_isCylinder_11 : decode cX6_isCylinder 11 = .ok (.invokestatic 33, 3) := by decide +kernel
theorem dX6_isCylinder_14 : decode cX6_isCylinder 14 = .ok (.ireturn, 1) := by decide +kernel
theorem dX6_demand_0 : decode cX6_demand 0 = .ok (.iload_n 0, 1) := by decide +kernel
theorem dX6_demand_1 : decode cX6_demand 1 = .ok (.ifCond .ne 13, 3) := by decide +kernel
theorem dX6_demand_4 : decode cX6_demand 4 = .ok (.new 226, 3) := by decide +kernel
theorem dX6_demand_7 : decode cX6_demand 7 = .ok (.dup, 1) := by decide +kernel
theorem dX6_demand_8 : decode cX6_demand 8 = .ok (.ldc 228, 2) := by decide +kernel
theorem dX6_demand_10 : decode cX6_demand 10 = .ok (.invokespecial 230, 3) := by decide +kernel
theorem dX6_demand_13 : decode cX6_demand 13 = .ok (.athrow, 1) := by decide +kernel
theorem dX6_demand_14 : decode cX6_demand 14 = .ok (.return_, 1) := by decide +kernel
theorem dX6_demandPlace_0 : decode cX6_demandPlace 0 = .ok (.iload_n 0, 1) := by decide +kernel
theorem dX6_demandPlace_1 : decode cX6_demandPlace 1 = .ok (.ifCond .ne 13, 3) := by decide +kernel
theorem dX6_demandPlace_4 : decode cX6_demandPlace 4 = .ok (.new 233, 3) := by decide +kernel
theorem dX6_demandPlace_7 : decode cX6_demandPlace 7 = .ok (.dup, 1) := by decide +kernel
theorem dX6_demandPlace_8 : decode cX6_demandPlace 8 = .ok (.ldc 235, 2) := by decide +kernel
theorem dX6_demandPlace_10 : decode cX6_demandPlace 10 = .ok (.invokespecial 237, 3) := by decide +kernel
theorem dX6_demandPlace_13 : decode cX6_demandPlace 13 = .ok (.athrow, 1) := by decide +kernel
theorem dX6_demandPlace_14 : decode cX6_demandPlace 14 = .ok (.return_, 1) := by decide +kernel
theorem dX6_demandState_0 : decode cX6_demandState 0 = .ok (.iload_n 0, 1) := by decide +kernel
theorem dX6_demandState_1 : decode cX6_demandState 1 = .ok (.ifCond .ne 13, 3) := by decide +kernel
theorem dX6_demandState_4 : decode cX6_demandState 4 = .ok (.new 238, 3) := by decide +kernel
theorem dX6_demandState_7 : decode cX6_demandState 7 = .ok (.dup, 1) := by decide +kernel
theorem dX6_demandState_8 : decode cX6_demandState 8 = .ok (.ldc 240, 2) := by decide +kernel
theorem dX6_demandState_10 : decode cX6_demandState 10 = .ok (.invokespecial 242, 3) := by decide +kernel
theorem dX6_demandState_13 : decode cX6_demandState 13 = .ok (.athrow, 1) := by decide +kernel
theorem dX6_demandState_14 : decode cX6_demandState 14 = .ok (.return_, 1) := by decide +kernel
theorem dX7_init_0 : decode cX7_init 0 = .ok (.aload_n 0, 1) := by decide +kernel
theorem dX7_init_1 : decode cX7_init 1 = .ok (.invokespecial 1, 3) := by decide +kernel
theorem dX7_init_4 : decode cX7_init 4 = .ok (.aload_n 0, 1) := by decide +kernel
theorem dX7_init_5 : decode cX7_init 5 = .ok (.sipush 254, 3) := by decide +kernel
theorem dX7_init_8 : decode cX7_init 8 = .ok (.newarray .int, 2) := by decide +kernel
theorem dX7_init_10 : decode cX7_init 10 = .ok (.putfield 7, 3) := by decide +kernel
theorem dX7_init_13 : decode cX7_init 13 = .ok (.aload_n 0, 1) := by decide +kernel
theorem dX7_init_14 : decode cX7_init 14 = .ok (.sipush 1016, 3) := by decide +kernel
theorem dX7_init_17 : decode cX7_init 17 = .ok (.newarray .int, 2) := by decide +kernel
theorem dX7_init_19 : decode cX7_init 19 = .ok (.putfield 13, 3) := by decide +kernel
theorem dX7_init_22 : decode cX7_init 22 = .ok (.aload_n 0, 1) := by decide +kernel
theorem dX7_init_23 : decode cX7_init 23 = .ok (.sipush 254, 3) := by decide +kernel
theorem dX7_init_26 : decode cX7_init 26 = .ok (.newarray .int, 2) := by decide +kernel
theorem dX7_init_28 : decode cX7_init 28 = .ok (.putfield 16, 3) := by decide +kernel
theorem dX7_init_31 : decode cX7_init 31 = .ok (.aload_n 0, 1) := by decide +kernel
theorem dX7_init_32 : decode cX7_init 32 = .ok (.bipush 120, 2) := by decide +kernel
theorem dX7_init_34 : decode cX7_init 34 = .ok (.newarray .int, 2) := by decide +kernel
theorem dX7_init_36 : decode cX7_init 36 = .ok (.putfield 19, 3) := by decide +kernel
theorem dX7_init_39 : decode cX7_init 39 = .ok (.aload_n 0, 1) := by decide +kernel
theorem dX7_init_40 : decode cX7_init 40 = .ok (.getfield 7, 3) := by decide +kernel
theorem dX7_init_43 : decode cX7_init 43 = .ok (.iconst 0, 1) := by decide +kernel
theorem dX7_init_44 : decode cX7_init 44 = .ok (.bipush 40, 2) := by decide +kernel
theorem dX7_init_46 : decode cX7_init 46 = .ok (.iastore, 1) := by decide +kernel
theorem dX7_init_47 : decode cX7_init 47 = .ok (.aload_n 0, 1) := by decide +kernel
theorem dX7_init_48 : decode cX7_init 48 = .ok (.getfield 7, 3) := by decide +kernel
theorem dX7_init_51 : decode cX7_init 51 = .ok (.iconst 1, 1) := by decide +kernel
theorem dX7_init_52 : decode cX7_init 52 = .ok (.bipush 10, 2) := by decide +kernel
theorem dX7_init_54 : decode cX7_init 54 = .ok (.iastore, 1) := by decide +kernel
theorem dX7_init_55 : decode cX7_init 55 = .ok (.aload_n 0, 1) := by decide +kernel
theorem dX7_init_56 : decode cX7_init 56 = .ok (.getfield 7, 3) := by decide +kernel
theorem dX7_init_59 : decode cX7_init 59 = .ok (.iconst 2, 1) := by decide +kernel
theorem dX7_init_60 : decode cX7_init 60 = .ok (.bipush 20, 2) := by decide +kernel
theorem dX7_init_62 : decode cX7_init 62 = .ok (.iastore, 1) := by decide +kernel
theorem dX7_init_63 : decode cX7_init 63 = .ok (.aload_n 0, 1) := by decide +kernel
theorem dX7_init_64 : decode cX7_init 64 = .ok (.getfield 7, 3) := by decide +kernel
theorem dX7_init_67 : decode cX7_init 67 = .ok (.iconst 3, 1) := by decide +kernel
theorem dX7_init_68 : decode cX7_init 68 = .ok (.sipush 150, 3) := by decide +kernel
theorem dX7_init_71 : decode cX7_init 71 = .ok (.iastore, 1) := by decide +kernel
theorem dX7_init_72 : decode cX7_init 72 = .ok (.aload_n 0, 1) := by decide +kernel
theorem dX7_init_73 : decode cX7_init 73 = .ok (.getfield 7, 3) := by decide +kernel
theorem dX7_init_76 : decode cX7_init 76 = .ok (.iconst 4, 1) := by decide +kernel
theorem dX7_init_77 : decode cX7_init 77 = .ok (.bipush 40, 2) := by decide +kernel
theorem dX7_init_79 : decode cX7_init 79 = .ok (.iastore, 1) := by decide +kernel
theorem dX7_init_80 : decode cX7_init 80 = .ok (.aload_n 0, 1) := by decide +kernel
theorem dX7_init_81 : decode cX7_init 81 = .ok (.getfield 7, 3) := by decide +kernel
theorem dX7_init_84 : decode cX7_init 84 = .ok (.iconst 5, 1) := by decide +kernel
theorem dX7_init_85 : decode cX7_init 85 = .ok (.bipush 30, 2) := by decide +kernel
theorem dX7_init_87 : decode cX7_init 87 = .ok (.iastore, 1) := by decide +kernel
theorem dX7_init_88 : decode cX7_init 88 = .ok (.aload_n 0, 1) := by decide +kernel
theorem dX7_init_89 : decode cX7_init 89 = .ok (.getfield 7, 3) := by decide +kernel
theorem dX7_init_92 : decode cX7_init 92 = .ok (.bipush 6, 2) := by decide +kernel
theorem dX7_init_94 : decode cX7_init 94 = .ok (.bipush 10, 2) := by decide +kernel
theorem dX7_init_96 : decode cX7_init 96 = .ok (.iastore, 1) := by decide +kernel
theorem dX7_init_97 : decode cX7_init 97 = .ok (.aload_n 0, 1) := by decide +kernel
theorem dX7_init_98 : decode cX7_init 98 = .ok (.getfield 7, 3) := by decide +kernel
theorem dX7_init_101 : decode cX7_init 101 = .ok (.bipush 7, 2) := by decide +kernel
theorem dX7_init_103 : decode cX7_init 103 = .ok (.bipush 60, 2) := by decide +kernel
theorem dX7_init_105 : decode cX7_init 105 = .ok (.iastore, 1) := by decide +kernel
theorem dX7_init_106 : decode cX7_init 106 = .ok (.aload_n 0, 1) := by decide +kernel
theorem dX7_init_107 : decode cX7_init 107 = .ok (.getfield 7, 3) := by decide +kernel
theorem dX7_init_110 : decode cX7_init 110 = .ok (.bipush 10, 2) := by decide +kernel
theorem dX7_init_112 : decode cX7_init 112 = .ok (.iconst 1, 1) := by decide +kernel
theorem dX7_init_113 : decode cX7_init 113 = .ok (.iastore, 1) := by decide +kernel
theorem dX7_init_114 : decode cX7_init 114 = .ok (.aload_n 0, 1) := by decide +kernel
theorem dX7_init_115 : decode cX7_init 115 = .ok (.iconst 4, 1) := by decide +kernel
theorem dX7_init_116 : decode cX7_init 116 = .ok (.invokevirtual 22, 3) := by decide +kernel
theorem dX7_init_119 : decode cX7_init 119 = .ok (.return_, 1) := by decide +kernel
theorem dX7_begins_0 : decode cX7_begins 0 = .ok (.aload_n 0, 1) := by decide +kernel
theorem dX7_begins_1 : decode cX7_begins 1 = .ok (.getfield 7, 3) := by decide +kernel
theorem dX7_begins_4 : decode cX7_begins 4 = .ok (.bipush 8, 2) := by decide +kernel
theorem dX7_begins_6 : decode cX7_begins 6 = .ok (.iload_n 1, 1) := by decide +kernel
theorem dX7_begins_7 : decode cX7_begins 7 = .ok (.iastore, 1) := by decide +kernel
theorem dX7_begins_8 : decode cX7_begins 8 = .ok (.aload_n 0, 1) := by decide +kernel
theorem dX7_begins_9 : decode cX7_begins 9 = .ok (.getfield 7, 3) := by decide +kernel
theorem dX7_begins_12 : decode cX7_begins 12 = .ok (.bipush 9, 2) := by decide +kernel
theorem dX7_begins_14 : decode cX7_begins 14 = .ok (.iconst 0, 1) := by decide +kernel
theorem dX7_begins_15 : decode cX7_begins 15 = .ok (.iastore, 1) := by decide +kernel
theorem dX7_begins_16 : decode cX7_begins 16 = .ok (.bipush 12, 2) := by decide +kernel
theorem dX7_begins_18 : decode cX7_begins 18 = .ok (.istore_n 2, 1) := by decide +kernel
theorem dX7_begins_19 : decode cX7_begins 19 = .ok (.iload_n 2, 1) := by decide +kernel
theorem dX7_begins_20 : decode cX7_begins 20 = .ok (.sipush 254, 3) := by decide +kernel
theorem dX7_begins_23 : decode cX7_begins 23 = .ok (.if_icmp .ge 16, 3) := by decide +kernel
theorem dX7_begins_26 : decode cX7_begins 26 = .ok (.aload_n 0, 1) := by decide +kernel
theorem dX7_begins_27 : decode cX7_begins 27 = .ok (.getfield 7, 3) := by decide +kernel
theorem dX7_begins_30 : decode cX7_begins 30 = .ok (.iload_n 2, 1) := by decide +kernel
theorem dX7_begins_31 : decode cX7_begins 31 = .ok (.iconst 0, 1) := by decide +kernel
theorem dX7_begins_32 : decode cX7_begins 32 = .ok (.iastore, 1) := by decide +kernel
theorem dX7_begins_33 : decode cX7_begins 33 = .ok (.iinc 2 1, 3) := by decide +kernel
theorem dX7_begins_36 : decode cX7_begins 36 = .ok (.goto (-17), 3) := by decide +kernel
theorem dX7_begins_39 : decode cX7_begins 39 = .ok (.aload_n 0, 1) := by decide +kernel
theorem dX7_begins_40 : decode cX7_begins 40 = .ok (.getfield 7, 3) := by decide +kernel
theorem dX7_begins_43 : decode cX7_begins 43 = .ok (.bipush 16, 2) := by decide +kernel
theorem dX7_begins_45 : decode cX7_begins 45 = .ok (.iconst (-1), 1) := by decide +kernel
theorem dX7_begins_46 : decode cX7_begins 46 = .ok (.iastore, 1) := by decide +kernel
theorem dX7_begins_47 : decode cX7_begins 47 = .ok (.iconst 0, 1) := by decide +kernel
theorem dX7_begins_48 : decode cX7_begins 48 = .ok (.istore_n 2, 1) := by decide +kernel
theorem dX7_begins_49 : decode cX7_begins 49 = .ok (.iload_n 2, 1) := by decide +kernel
theorem dX7_begins_50 : decode cX7_begins 50 = .ok (.bipush 8, 2) := by decide +kernel
theorem dX7_begins_52 : decode cX7_begins 52 = .ok (.if_icmp .ge 20, 3) := by decide +kernel
theorem dX7_begins_55 : decode cX7_begins 55 = .ok (.aload_n 0, 1) := by decide +kernel
theorem dX7_begins_56 : decode cX7_begins 56 = .ok (.getfield 7, 3) := by decide +kernel
theorem dX7_begins_59 : decode cX7_begins 59 = .ok (.bipush 25, 2) := by decide +kernel
theorem dX7_begins_61 : decode cX7_begins 61 = .ok (.iload_n 2, 1) := by decide +kernel
theorem dX7_begins_62 : decode cX7_begins 62 = .ok (.iadd, 1) := by decide +kernel
theorem dX7_begins_63 : decode cX7_begins 63 = .ok (.ldc 26, 2) := by decide +kernel
theorem dX7_begins_65 : decode cX7_begins 65 = .ok (.iastore, 1) := by decide +kernel
theorem dX7_begins_66 : decode cX7_begins 66 = .ok (.iinc 2 1, 3) := by decide +kernel
theorem dX7_begins_69 : decode cX7_begins 69 = .ok (.goto (-20), 3) := by decide +kernel
theorem dX7_begins_72 : decode cX7_begins 72 = .ok (.return_, 1) := by decide +kernel
theorem dX7_thrown_0 : decode cX7_thrown 0 = .ok (.aload_n 0, 1) := by decide +kernel
theorem dX7_thrown_1 : decode cX7_thrown 1 = .ok (.getfield 27, 3) := by decide +kernel
theorem dX7_thrown_4 : decode cX7_thrown 4 = .ok (.ireturn, 1) := by decide +kernel
theorem dX7_refused_0 : decode cX7_refused 0 = .ok (.aload_n 0, 1) := by decide +kernel
theorem dX7_refused_1 : decode cX7_refused 1 = .ok (.iload_n 1, 1) := by decide +kernel
theorem dX7_refused_2 : decode cX7_refused 2 = .ok (.putfield 27, 3) := by decide +kernel
theorem dX7_refused_5 : decode cX7_refused 5 = .ok (.iload_n 1, 1) := by decide +kernel
theorem dX7_refused_6 : decode cX7_refused 6 = .ok (.ifCond .le 7, 3) := by decide +kernel
theorem dX7_refused_9 : decode cX7_refused 9 = .ok (.iconst 1, 1) := by decide +kernel
theorem dX7_refused_10 : decode cX7_refused 10 = .ok (.goto 4, 3) := by decide +kernel
theorem dX7_refused_13 : decode cX7_refused 13 = .ok (.iconst 0, 1) := by decide +kernel
theorem dX7_refused_14 : decode cX7_refused 14 = .ok (.ireturn, 1) := by decide +kernel
theorem dX7_within_0 : decode cX7_within 0 = .ok (.iload_n 0, 1) := by decide +kernel
theorem dX7_within_1 : decode cX7_within 1 = .ok (.iload_n 1, 1) := by decide +kernel
theorem dX7_within_2 : decode cX7_within 2 = .ok (.if_icmp .lt 12, 3) := by decide +kernel
theorem dX7_within_5 : decode cX7_within 5 = .ok (.iload_n 0, 1) := by decide +kernel
theorem dX7_within_6 : decode cX7_within 6 = .ok (.iload_n 2, 1) := by decide +kernel
theorem dX7_within_7 : decode cX7_within 7 = .ok (.if_icmp .gt 7, 3) := by decide +kernel
theorem dX7_within_10 : decode cX7_within 10 = .ok (.iconst 1, 1) := by decide +kernel
theorem dX7_within_11 : decode cX7_within 11 = .ok (.goto 4, 3) := by decide +kernel
theorem dX7_within_14 : decode cX7_within 14 = .ok (.iconst 0, 1) := by decide +kernel
theorem dX7_within_15 : decode cX7_within 15 = .ok (.ireturn, 1) := by decide +kernel
theorem dX7_floor_0 : decode cX7_floor 0 = .ok (.iload_n 0, 1) := by decide +kernel
theorem dX7_floor_1 : decode cX7_floor 1 = .ok (.iload_n 1, 1) := by decide +kernel
theorem dX7_floor_2 : decode cX7_floor 2 = .ok (.idiv, 1) := by decide +kernel
theorem dX7_floor_3 : decode cX7_floor 3 = .ok (.istore_n 2, 1) := by decide +kernel
theorem dX7_floor_4 : decode cX7_floor 4 = .ok (.iload_n 0, 1) := by decide +kernel
theorem dX7_floor_5 : decode cX7_floor 5 = .ok (.iload_n 1, 1) := by decide +kernel
theorem dX7_floor_6 : decode cX7_floor 6 = .ok (.irem, 1) := by decide +kernel
theorem dX7_floor_7 : decode cX7_floor 7 = .ok (.ifCond .ge 9, 3) := by decide +kernel
theorem dX7_floor_10 : decode cX7_floor 10 = .ok (.iload_n 2, 1) := by decide +kernel
theorem dX7_floor_11 : decode cX7_floor 11 = .ok (.iconst 1, 1) := by decide +kernel
theorem dX7_floor_12 : decode cX7_floor 12 = .ok (.isub, 1) := by decide +kernel
theorem dX7_floor_13 : decode cX7_floor 13 = .ok (.goto 4, 3) := by decide +kernel
theorem dX7_floor_16 : decode cX7_floor 16 = .ok (.iload_n 2, 1) := by decide +kernel
theorem dX7_floor_17 : decode cX7_floor 17 = .ok (.ireturn, 1) := by decide +kernel
theorem dX7_lesser_0 : decode cX7_lesser 0 = .ok (.iload_n 0, 1) := by decide +kernel
theorem dX7_lesser_1 : decode cX7_lesser 1 = .ok (.iload_n 1, 1) := by decide +kernel
theorem dX7_lesser_2 : decode cX7_lesser 2 = .ok (.if_icmp .ge 7, 3) := by decide +kernel
theorem dX7_lesser_5 : decode cX7_lesser 5 = .ok (.iload_n 0, 1) := by decide +kernel
theorem dX7_lesser_6 : decode cX7_lesser 6 = .ok (.goto 4, 3) := by decide +kernel
theorem dX7_lesser_9 : decode cX7_lesser 9 = .ok (.iload_n 1, 1) := by decide +kernel
theorem dX7_lesser_10 : decode cX7_lesser 10 = .ok (.ireturn, 1) := by decide +kernel
theorem dX7_saves_0 : decode cX7_saves 0 = .ok (.aload_n 0, 1) := by decide +kernel
theorem dX7_saves_1 : decode cX7_saves 1 = .ok (.getfield 31, 3) := by decide +kernel
theorem dX7_saves_4 : decode cX7_saves 4 = .ok (.iconst 4, 1) := by decide +kernel
theorem dX7_saves_5 : decode cX7_saves 5 = .ok (.if_icmp .ne 44, 3) := by decide +kernel
theorem dX7_saves_8 : decode cX7_saves 8 = .ok (.iconst 0, 1) := by decide +kernel
theorem dX7_saves_9 : decode cX7_saves 9 = .ok (.istore_n 1, 1) := by decide +kernel
theorem dX7_saves_10 : decode cX7_saves 10 = .ok (.iload_n 1, 1) := by decide +kernel
theorem dX7_saves_11 : decode cX7_saves 11 = .ok (.sipush 762, 3) := by decide +kernel
theorem dX7_saves_14 : decode cX7_saves 14 = .ok (.if_icmp .ge 25, 3) := by decide +kernel
theorem dX7_saves_17 : decode cX7_saves 17 = .ok (.aload_n 0, 1) := by decide +kernel
theorem dX7_saves_18 : decode cX7_saves 18 = .ok (.getfield 13, 3) := by decide +kernel
theorem dX7_saves_21 : decode cX7_saves 21 = .ok (.iload_n 1, 1) := by decide +kernel
theorem dX7_saves_22 : decode cX7_saves 22 = .ok (.aload_n 0, 1) := by decide +kernel
theorem dX7_saves_23 : decode cX7_saves 23 = .ok (.getfield 13, 3) := by decide +kernel
end
section
theorem dX7_saves_26 : decode cX7_saves 26 = .ok (.iload_n 1, 1) := by decide +kernel
theorem dX7_saves_27 : decode cX7_saves 27 = .ok (.sipush 254, 3) := by decide +kernel
theorem dX7_saves_30 : decode cX7_saves 30 = .ok (.iadd, 1) := by decide +kernel
theorem dX7_saves_31 : decode cX7_saves 31 = .ok (.iaload, 1) := by decide +kernel
theorem dX7_saves_32 : decode cX7_saves 32 = .ok (.iastore, 1) := by decide +kernel
theorem dX7_saves_33 : decode cX7_saves 33 = .ok (.iinc 1 1, 3) := by decide +kernel
theorem dX7_saves_36 : decode cX7_saves 36 = .ok (.goto (-26), 3) := by decide +kernel
theorem dX7_saves_39 : decode cX7_saves 39 = .ok (.aload_n 0, 1) := by decide +kernel
theorem dX7_saves_40 : decode cX7_saves 40 = .ok (.dup, 1) := by decide +kernel
theorem dX7_saves_41 : decode cX7_saves 41 = .ok (.getfield 31, 3) := by decide +kernel
theorem dX7_saves_44 : decode cX7_saves 44 = .ok (.iconst 1, 1) := by decide +kernel
theorem dX7_saves_45 : decode cX7_saves 45 = .ok (.isub, 1) := by decide +kernel
theorem dX7_saves_46 : decode cX7_saves 46 = .ok (.putfield 31, 3) := by decide +kernel
theorem dX7_saves_49 : decode cX7_saves 49 = .ok (.iconst 0, 1) := by decide +kernel
theorem dX7_saves_50 : decode cX7_saves 50 = .ok (.istore_n 1, 1) := by decide +kernel
theorem dX7_saves_51 : decode cX7_saves 51 = .ok (.iload_n 1, 1) := by decide +kernel
theorem dX7_saves_52 : decode cX7_saves 52 = .ok (.sipush 254, 3) := by decide +kernel
theorem dX7_saves_55 : decode cX7_saves 55 = .ok (.if_icmp .ge 30, 3) := by decide +kernel
theorem dX7_saves_58 : decode cX7_saves 58 = .ok (.aload_n 0, 1) := by decide +kernel
theorem dX7_saves_59 : decode cX7_saves 59 = .ok (.getfield 13, 3) := by decide +kernel
theorem dX7_saves_62 : decode cX7_saves 62 = .ok (.sipush 254, 3) := by decide +kernel
theorem dX7_saves_65 : decode cX7_saves 65 = .ok (.aload_n 0, 1) := by decide +kernel
theorem dX7_saves_66 : decode cX7_saves 66 = .ok (.getfield 31, 3) := by decide +kernel
theorem dX7_saves_69 : decode cX7_saves 69 = .ok (.imul, 1) := by decide +kernel
theorem dX7_saves_70 : decode cX7_saves 70 = .ok (.iload_n 1, 1) := by decide +kernel
theorem dX7_saves_71 : decode cX7_saves 71 = .ok (.iadd, 1) := by decide +kernel
theorem dX7_saves_72 : decode cX7_saves 72 = .ok (.aload_n 0, 1) := by decide +kernel
theorem dX7_saves_73 : decode cX7_saves 73 = .ok (.getfield 7, 3) := by decide +kernel
theorem dX7_saves_76 : decode cX7_saves 76 = .ok (.iload_n 1, 1) := by decide +kernel
theorem dX7_saves_77 : decode cX7_saves 77 = .ok (.iaload, 1) := by decide +kernel
theorem dX7_saves_78 : decode cX7_saves 78 = .ok (.iastore, 1) := by decide +kernel
theorem dX7_saves_79 : decode cX7_saves 79 = .ok (.iinc 1 1, 3) := by decide +kernel
theorem dX7_saves_82 : decode cX7_saves 82 = .ok (.goto (-31), 3) := by decide +kernel
theorem dX7_saves_85 : decode cX7_saves 85 = .ok (.aload_n 0, 1) := by decide +kernel
theorem dX7_saves_86 : decode cX7_saves 86 = .ok (.dup, 1) := by decide +kernel
theorem dX7_saves_87 : decode cX7_saves 87 = .ok (.getfield 31, 3) := by decide +kernel
theorem dX7_saves_90 : decode cX7_saves 90 = .ok (.iconst 1, 1) := by decide +kernel
theorem dX7_saves_91 : decode cX7_saves 91 = .ok (.iadd, 1) := by decide +kernel
theorem dX7_saves_92 : decode cX7_saves 92 = .ok (.putfield 31, 3) := by decide +kernel
theorem dX7_saves_95 : decode cX7_saves 95 = .ok (.return_, 1) := by decide +kernel
theorem dX7_undo_0 : decode cX7_undo 0 = .ok (.aload_n 0, 1) := by decide +kernel
theorem dX7_undo_1 : decode cX7_undo 1 = .ok (.aload_n 0, 1) := by decide +kernel
theorem dX7_undo_2 : decode cX7_undo 2 = .ok (.getfield 31, 3) := by decide +kernel
theorem dX7_undo_5 : decode cX7_undo 5 = .ok (.ifCond .ne 7, 3) := by decide +kernel
theorem dX7_undo_8 : decode cX7_undo 8 = .ok (.iconst 1, 1) := by decide +kernel
theorem dX7_undo_9 : decode cX7_undo 9 = .ok (.goto 4, 3) := by decide +kernel
theorem dX7_undo_12 : decode cX7_undo 12 = .ok (.iconst 0, 1) := by decide +kernel
theorem dX7_undo_13 : decode cX7_undo 13 = .ok (.invokevirtual 34, 3) := by decide +kernel
theorem dX7_undo_16 : decode cX7_undo 16 = .ok (.ifCond .eq 5, 3) := by decide +kernel
theorem dX7_undo_19 : decode cX7_undo 19 = .ok (.iconst 0, 1) := by decide +kernel
theorem dX7_undo_20 : decode cX7_undo 20 = .ok (.ireturn, 1) := by decide +kernel
theorem dX7_undo_21 : decode cX7_undo 21 = .ok (.aload_n 0, 1) := by decide +kernel
theorem dX7_undo_22 : decode cX7_undo 22 = .ok (.dup, 1) := by decide +kernel
theorem dX7_undo_23 : decode cX7_undo 23 = .ok (.getfield 31, 3) := by decide +kernel
theorem dX7_undo_26 : decode cX7_undo 26 = .ok (.iconst 1, 1) := by decide +kernel
theorem dX7_undo_27 : decode cX7_undo 27 = .ok (.isub, 1) := by decide +kernel
theorem dX7_undo_28 : decode cX7_undo 28 = .ok (.putfield 31, 3) := by decide +kernel
theorem dX7_undo_31 : decode cX7_undo 31 = .ok (.iconst 0, 1) := by decide +kernel
theorem dX7_undo_32 : decode cX7_undo 32 = .ok (.istore_n 1, 1) := by decide +kernel
theorem dX7_undo_33 : decode cX7_undo 33 = .ok (.iload_n 1, 1) := by decide +kernel
theorem dX7_undo_34 : decode cX7_undo 34 = .ok (.sipush 254, 3) := by decide +kernel
theorem dX7_undo_37 : decode cX7_undo 37 = .ok (.if_icmp .ge 30, 3) := by decide +kernel
theorem dX7_undo_40 : decode cX7_undo 40 = .ok (.aload_n 0, 1) := by decide +kernel
theorem dX7_undo_41 : decode cX7_undo 41 = .ok (.getfield 7, 3) := by decide +kernel
theorem dX7_undo_44 : decode cX7_undo 44 = .ok (.iload_n 1, 1) := by decide +kernel
theorem dX7_undo_45 : decode cX7_undo 45 = .ok (.aload_n 0, 1) := by decide +kernel
theorem dX7_undo_46 : decode cX7_undo 46 = .ok (.getfield 13, 3) := by decide +kernel
theorem dX7_undo_49 : decode cX7_undo 49 = .ok (.sipush 254, 3) := by decide +kernel
theorem dX7_undo_52 : decode cX7_undo 52 = .ok (.aload_n 0, 1) := by decide +kernel
theorem dX7_undo_53 : decode cX7_undo 53 = .ok (.getfield 31, 3) := by decide +kernel
theorem dX7_undo_56 : decode cX7_undo 56 = .ok (.imul, 1) := by decide +kernel
theorem dX7_undo_57 : decode cX7_undo 57 = .ok (.iload_n 1, 1) := by decide +kernel
theorem dX7_undo_58 : decode cX7_undo 58 = .ok (.iadd, 1) := by decide +kernel
theorem dX7_undo_59 : decode cX7_undo 59 = .ok (.iaload, 1) := by decide +kernel
theorem dX7_undo_60 : decode cX7_undo 60 = .ok (.iastore, 1) := by decide +kernel
theorem dX7_undo_61 : decode cX7_undo 61 = .ok (.iinc 1 1, 3) := by decide +kernel
theorem dX7_undo_64 : decode cX7_undo 64 = .ok (.goto (-31), 3) := by decide +kernel
theorem dX7_undo_67 : decode cX7_undo 67 = .ok (.aload_n 0, 1) := by decide +kernel
theorem dX7_undo_68 : decode cX7_undo 68 = .ok (.getfield 31, 3) := by decide +kernel
theorem dX7_undo_71 : decode cX7_undo 71 = .ok (.ireturn, 1) := by decide +kernel
theorem dX7_laysAside_0 : decode cX7_laysAside 0 = .ok (.iconst 0, 1) := by decide +kernel
theorem dX7_laysAside_1 : decode cX7_laysAside 1 = .ok (.istore_n 1, 1) := by decide +kernel
theorem dX7_laysAside_2 : decode cX7_laysAside 2 = .ok (.iload_n 1, 1) := by decide +kernel
theorem dX7_laysAside_3 : decode cX7_laysAside 3 = .ok (.sipush 254, 3) := by decide +kernel
theorem dX7_laysAside_6 : decode cX7_laysAside 6 = .ok (.if_icmp .ge 21, 3) := by decide +kernel
theorem dX7_laysAside_9 : decode cX7_laysAside 9 = .ok (.aload_n 0, 1) := by decide +kernel
theorem dX7_laysAside_10 : decode cX7_laysAside 10 = .ok (.getfield 16, 3) := by decide +kernel
theorem dX7_laysAside_13 : decode cX7_laysAside 13 = .ok (.iload_n 1, 1) := by decide +kernel
theorem dX7_laysAside_14 : decode cX7_laysAside 14 = .ok (.aload_n 0, 1) := by decide +kernel
theorem dX7_laysAside_15 : decode cX7_laysAside 15 = .ok (.getfield 7, 3) := by decide +kernel
theorem dX7_laysAside_18 : decode cX7_laysAside 18 = .ok (.iload_n 1, 1) := by decide +kernel
theorem dX7_laysAside_19 : decode cX7_laysAside 19 = .ok (.iaload, 1) := by decide +kernel
theorem dX7_laysAside_20 : decode cX7_laysAside 20 = .ok (.iastore, 1) := by decide +kernel
theorem dX7_laysAside_21 : decode cX7_laysAside 21 = .ok (.iinc 1 1, 3) := by decide +kernel
theorem dX7_laysAside_24 : decode cX7_laysAside 24 = .ok (.goto (-22), 3) := by decide +kernel
theorem dX7_laysAside_27 : decode cX7_laysAside 27 = .ok (.return_, 1) := by decide +kernel
theorem dX7_takesBack_0 : decode cX7_takesBack 0 = .ok (.iconst 0, 1) := by decide +kernel
theorem dX7_takesBack_1 : decode cX7_takesBack 1 = .ok (.istore_n 1, 1) := by decide +kernel
theorem dX7_takesBack_2 : decode cX7_takesBack 2 = .ok (.iload_n 1, 1) := by decide +kernel
theorem dX7_takesBack_3 : decode cX7_takesBack 3 = .ok (.sipush 254, 3) := by decide +kernel
theorem dX7_takesBack_6 : decode cX7_takesBack 6 = .ok (.if_icmp .ge 21, 3) := by decide +kernel
theorem dX7_takesBack_9 : decode cX7_takesBack 9 = .ok (.aload_n 0, 1) := by decide +kernel
theorem dX7_takesBack_10 : decode cX7_takesBack 10 = .ok (.getfield 7, 3) := by decide +kernel
theorem dX7_takesBack_13 : decode cX7_takesBack 13 = .ok (.iload_n 1, 1) := by decide +kernel
theorem dX7_takesBack_14 : decode cX7_takesBack 14 = .ok (.aload_n 0, 1) := by decide +kernel
theorem dX7_takesBack_15 : decode cX7_takesBack 15 = .ok (.getfield 16, 3) := by decide +kernel
theorem dX7_takesBack_18 : decode cX7_takesBack 18 = .ok (.iload_n 1, 1) := by decide +kernel
theorem dX7_takesBack_19 : decode cX7_takesBack 19 = .ok (.iaload, 1) := by decide +kernel
theorem dX7_takesBack_20 : decode cX7_takesBack 20 = .ok (.iastore, 1) := by decide +kernel
theorem dX7_takesBack_21 : decode cX7_takesBack 21 = .ok (.iinc 1 1, 3) := by decide +kernel
theorem dX7_takesBack_24 : decode cX7_takesBack 24 = .ok (.goto (-22), 3) := by decide +kernel
theorem dX7_takesBack_27 : decode cX7_takesBack 27 = .ok (.return_, 1) := by decide +kernel
theorem dX7_begin_0 : decode cX7_begin 0 = .ok (.aload_n 0, 1) := by decide +kernel
theorem dX7_begin_1 : decode cX7_begin 1 = .ok (.iload_n 1, 1) := by decide +kernel
theorem dX7_begin_2 : decode cX7_begin 2 = .ok (.iconst 2, 1) := by decide +kernel
theorem dX7_begin_3 : decode cX7_begin 3 = .ok (.bipush 8, 2) := by decide +kernel
theorem dX7_begin_5 : decode cX7_begin 5 = .ok (.invokestatic 38, 3) := by decide +kernel
theorem dX7_begin_8 : decode cX7_begin 8 = .ok (.ifCond .eq 7, 3) := by decide +kernel
theorem dX7_begin_11 : decode cX7_begin 11 = .ok (.iconst 0, 1) := by decide +kernel
theorem dX7_begin_12 : decode cX7_begin 12 = .ok (.goto 4, 3) := by decide +kernel
theorem dX7_begin_15 : decode cX7_begin 15 = .ok (.iconst 1, 1) := by decide +kernel
theorem dX7_begin_16 : decode cX7_begin 16 = .ok (.invokevirtual 34, 3) := by decide +kernel
theorem dX7_begin_19 : decode cX7_begin 19 = .ok (.ifCond .eq 5, 3) := by decide +kernel
theorem dX7_begin_22 : decode cX7_begin 22 = .ok (.iconst 0, 1) := by decide +kernel
theorem dX7_begin_23 : decode cX7_begin 23 = .ok (.ireturn, 1) := by decide +kernel
theorem dX7_begin_24 : decode cX7_begin 24 = .ok (.aload_n 0, 1) := by decide +kernel
theorem dX7_begin_25 : decode cX7_begin 25 = .ok (.invokevirtual 42, 3) := by decide +kernel
theorem dX7_begin_28 : decode cX7_begin 28 = .ok (.aload_n 0, 1) := by decide +kernel
theorem dX7_begin_29 : decode cX7_begin 29 = .ok (.getfield 7, 3) := by decide +kernel
theorem dX7_begin_32 : decode cX7_begin 32 = .ok (.bipush 9, 2) := by decide +kernel
theorem dX7_begin_34 : decode cX7_begin 34 = .ok (.iaload, 1) := by decide +kernel
theorem dX7_begin_35 : decode cX7_begin 35 = .ok (.istore_n 2, 1) := by decide +kernel
theorem dX7_begin_36 : decode cX7_begin 36 = .ok (.aload_n 0, 1) := by decide +kernel
theorem dX7_begin_37 : decode cX7_begin 37 = .ok (.iload_n 1, 1) := by decide +kernel
theorem dX7_begin_38 : decode cX7_begin 38 = .ok (.invokevirtual 22, 3) := by decide +kernel
theorem dX7_begin_41 : decode cX7_begin 41 = .ok (.iload_n 2, 1) := by decide +kernel
theorem dX7_begin_42 : decode cX7_begin 42 = .ok (.ireturn, 1) := by decide +kernel
theorem dX7_isSetting_0 : decode cX7_isSetting 0 = .ok (.iload_n 0, 1) := by decide +kernel
theorem dX7_isSetting_1 : decode cX7_isSetting 1 = .ok (.tableswitch 107 0 6 #[43, 53, 61, 70, 80, 89, 98], 43) := by decide +kernel
theorem dX7_isSetting_44 : decode cX7_isSetting 44 = .ok (.iload_n 1, 1) := by decide +kernel
theorem dX7_isSetting_45 : decode cX7_isSetting 45 = .ok (.bipush 16, 2) := by decide +kernel
theorem dX7_isSetting_47 : decode cX7_isSetting 47 = .ok (.sipush 128, 3) := by decide +kernel
theorem dX7_isSetting_50 : decode cX7_isSetting 50 = .ok (.invokestatic 38, 3) := by decide +kernel
theorem dX7_isSetting_53 : decode cX7_isSetting 53 = .ok (.ireturn, 1) := by decide +kernel
theorem dX7_isSetting_54 : decode cX7_isSetting 54 = .ok (.iload_n 1, 1) := by decide +kernel
theorem dX7_isSetting_55 : decode cX7_isSetting 55 = .ok (.iconst 1, 1) := by decide +kernel
theorem dX7_isSetting_56 : decode cX7_isSetting 56 = .ok (.bipush 50, 2) := by decide +kernel
theorem dX7_isSetting_58 : decode cX7_isSetting 58 = .ok (.invokestatic 38, 3) := by decide +kernel
theorem dX7_isSetting_61 : decode cX7_isSetting 61 = .ok (.ireturn, 1) := by decide +kernel
theorem dX7_isSetting_62 : decode cX7_isSetting 62 = .ok (.iload_n 1, 1) := by decide +kernel
theorem dX7_isSetting_63 : decode cX7_isSetting 63 = .ok (.iconst 1, 1) := by decide +kernel
theorem dX7_isSetting_64 : decode cX7_isSetting 64 = .ok (.sipush 200, 3) := by decide +kernel
theorem dX7_isSetting_67 : decode cX7_isSetting 67 = .ok (.invokestatic 38, 3) := by decide +kernel
theorem dX7_isSetting_70 : decode cX7_isSetting 70 = .ok (.ireturn, 1) := by decide +kernel
theorem dX7_isSetting_71 : decode cX7_isSetting 71 = .ok (.iload_n 1, 1) := by decide +kernel
theorem dX7_isSetting_72 : decode cX7_isSetting 72 = .ok (.bipush 20, 2) := by decide +kernel
theorem dX7_isSetting_74 : decode cX7_isSetting 74 = .ok (.sipush 200, 3) := by decide +kernel
theorem dX7_isSetting_77 : decode cX7_isSetting 77 = .ok (.invokestatic 38, 3) := by decide +kernel
theorem dX7_isSetting_80 : decode cX7_isSetting 80 = .ok (.ireturn, 1) := by decide +kernel
theorem dX7_isSetting_81 : decode cX7_isSetting 81 = .ok (.iload_n 1, 1) := by decide +kernel
theorem dX7_isSetting_82 : decode cX7_isSetting 82 = .ok (.iconst 0, 1) := by decide +kernel
theorem dX7_isSetting_83 : decode cX7_isSetting 83 = .ok (.sipush 200, 3) := by decide +kernel
theorem dX7_isSetting_86 : decode cX7_isSetting 86 = .ok (.invokestatic 38, 3) := by decide +kernel
theorem dX7_isSetting_89 : decode cX7_isSetting 89 = .ok (.ireturn, 1) := by decide +kernel
theorem dX7_isSetting_90 : decode cX7_isSetting 90 = .ok (.iload_n 1, 1) := by decide +kernel
theorem dX7_isSetting_91 : decode cX7_isSetting 91 = .ok (.iconst 1, 1) := by decide +kernel
theorem dX7_isSetting_92 : decode cX7_isSetting 92 = .ok (.sipush 500, 3) := by decide +kernel
theorem dX7_isSetting_95 : decode cX7_isSetting 95 = .ok (.invokestatic 38, 3) := by decide +kernel
theorem dX7_isSetting_98 : decode cX7_isSetting 98 = .ok (.ireturn, 1) := by decide +kernel
theorem dX7_isSetting_99 : decode cX7_isSetting 99 = .ok (.iload_n 1, 1) := by decide +kernel
theorem dX7_isSetting_100 : decode cX7_isSetting 100 = .ok (.iconst 0, 1) := by decide +kernel
theorem dX7_isSetting_101 : decode cX7_isSetting 101 = .ok (.sipush 1000, 3) := by decide +kernel
theorem dX7_isSetting_104 : decode cX7_isSetting 104 = .ok (.invokestatic 38, 3) := by decide +kernel
theorem dX7_isSetting_107 : decode cX7_isSetting 107 = .ok (.ireturn, 1) := by decide +kernel
theorem dX7_isSetting_108 : decode cX7_isSetting 108 = .ok (.iload_n 0, 1) := by decide +kernel
theorem dX7_isSetting_109 : decode cX7_isSetting 109 = .ok (.bipush 7, 2) := by decide +kernel
theorem dX7_isSetting_111 : decode cX7_isSetting 111 = .ok (.if_icmp .ne 17, 3) := by decide +kernel
theorem dX7_isSetting_114 : decode cX7_isSetting 114 = .ok (.iload_n 1, 1) := by decide +kernel
theorem dX7_isSetting_115 : decode cX7_isSetting 115 = .ok (.iconst 0, 1) := by decide +kernel
theorem dX7_isSetting_116 : decode cX7_isSetting 116 = .ok (.bipush 100, 2) := by decide +kernel
theorem dX7_isSetting_118 : decode cX7_isSetting 118 = .ok (.invokestatic 38, 3) := by decide +kernel
theorem dX7_isSetting_121 : decode cX7_isSetting 121 = .ok (.ifCond .eq 7, 3) := by decide +kernel
theorem dX7_isSetting_124 : decode cX7_isSetting 124 = .ok (.iconst 1, 1) := by decide +kernel
theorem dX7_isSetting_125 : decode cX7_isSetting 125 = .ok (.goto 4, 3) := by decide +kernel
theorem dX7_isSetting_128 : decode cX7_isSetting 128 = .ok (.iconst 0, 1) := by decide +kernel
theorem dX7_isSetting_129 : decode cX7_isSetting 129 = .ok (.ireturn, 1) := by decide +kernel
theorem dX7_set_0 : decode cX7_set 0 = .ok (.aload_n 0, 1) := by decide +kernel
theorem dX7_set_1 : decode cX7_set 1 = .ok (.iload_n 1, 1) := by decide +kernel
theorem dX7_set_2 : decode cX7_set 2 = .ok (.iload_n 2, 1) := by decide +kernel
theorem dX7_set_3 : decode cX7_set 3 = .ok (.invokestatic 45, 3) := by decide +kernel
theorem dX7_set_6 : decode cX7_set 6 = .ok (.ifCond .eq 7, 3) := by decide +kernel
theorem dX7_set_9 : decode cX7_set 9 = .ok (.iconst 0, 1) := by decide +kernel
theorem dX7_set_10 : decode cX7_set 10 = .ok (.goto 4, 3) := by decide +kernel
theorem dX7_set_13 : decode cX7_set 13 = .ok (.iconst 1, 1) := by decide +kernel
theorem dX7_set_14 : decode cX7_set 14 = .ok (.invokevirtual 34, 3) := by decide +kernel
theorem dX7_set_17 : decode cX7_set 17 = .ok (.ifCond .eq 5, 3) := by decide +kernel
theorem dX7_set_20 : decode cX7_set 20 = .ok (.iconst 0, 1) := by decide +kernel
theorem dX7_set_21 : decode cX7_set 21 = .ok (.ireturn, 1) := by decide +kernel
theorem dX7_set_22 : decode cX7_set 22 = .ok (.aload_n 0, 1) := by decide +kernel
theorem dX7_set_23 : decode cX7_set 23 = .ok (.invokevirtual 42, 3) := by decide +kernel
theorem dX7_set_26 : decode cX7_set 26 = .ok (.aload_n 0, 1) := by decide +kernel
theorem dX7_set_27 : decode cX7_set 27 = .ok (.getfield 7, 3) := by decide +kernel
theorem dX7_set_30 : decode cX7_set 30 = .ok (.iload_n 1, 1) := by decide +kernel
theorem dX7_set_31 : decode cX7_set 31 = .ok (.iaload, 1) := by decide +kernel
theorem dX7_set_32 : decode cX7_set 32 = .ok (.istore_n 3, 1) := by decide +kernel
theorem dX7_set_33 : decode cX7_set 33 = .ok (.aload_n 0, 1) := by decide +kernel
theorem dX7_set_34 : decode cX7_set 34 = .ok (.getfield 7, 3) := by decide +kernel
theorem dX7_set_37 : decode cX7_set 37 = .ok (.iload_n 1, 1) := by decide +kernel
theorem dX7_set_38 : decode cX7_set 38 = .ok (.iload_n 2, 1) := by decide +kernel
theorem dX7_set_39 : decode cX7_set 39 = .ok (.iastore, 1) := by decide +kernel
theorem dX7_set_40 : decode cX7_set 40 = .ok (.iload_n 3, 1) := by decide +kernel
theorem dX7_set_41 : decode cX7_set 41 = .ok (.ireturn, 1) := by decide +kernel
theorem dX7_value_0 : decode cX7_value 0 = .ok (.aload_n 0, 1) := by decide +kernel
theorem dX7_value_1 : decode cX7_value 1 = .ok (.iload_n 1, 1) := by decide +kernel
theorem dX7_value_2 : decode cX7_value 2 = .ok (.iconst 0, 1) := by decide +kernel
theorem dX7_value_3 : decode cX7_value 3 = .ok (.bipush 8, 2) := by decide +kernel
theorem dX7_value_5 : decode cX7_value 5 = .ok (.invokestatic 38, 3) := by decide +kernel
theorem dX7_value_8 : decode cX7_value 8 = .ok (.ifCond .eq 7, 3) := by decide +kernel
theorem dX7_value_11 : decode cX7_value 11 = .ok (.iconst 0, 1) := by decide +kernel
theorem dX7_value_12 : decode cX7_value 12 = .ok (.goto 4, 3) := by decide +kernel
theorem dX7_value_15 : decode cX7_value 15 = .ok (.iconst 1, 1) := by decide +kernel
theorem dX7_value_16 : decode cX7_value 16 = .ok (.invokevirtual 34, 3) := by decide +kernel
theorem dX7_value_19 : decode cX7_value 19 = .ok (.ifCond .eq 7, 3) := by decide +kernel
theorem dX7_value_22 : decode cX7_value 22 = .ok (.iconst 0, 1) := by decide +kernel
theorem dX7_value_23 : decode cX7_value 23 = .ok (.goto 9, 3) := by decide +kernel
theorem dX7_value_26 : decode cX7_value 26 = .ok (.aload_n 0, 1) := by decide +kernel
theorem dX7_value_27 : decode cX7_value 27 = .ok (.getfield 7, 3) := by decide +kernel
theorem dX7_value_30 : decode cX7_value 30 = .ok (.iload_n 1, 1) := by decide +kernel
theorem dX7_value_31 : decode cX7_value 31 = .ok (.iaload, 1) := by decide +kernel
theorem dX7_value_32 : decode cX7_value 32 = .ok (.ireturn, 1) := by decide +kernel
theorem dX7_isCell_0 : decode cX7_isCell 0 = .ok (.iload_n 0, 1) := by decide +kernel
theorem dX7_isCell_1 : decode cX7_isCell 1 = .ok (.iconst 0, 1) := by decide +kernel
theorem dX7_isCell_2 : decode cX7_isCell 2 = .ok (.iconst 5, 1) := by decide +kernel
theorem dX7_isCell_3 : decode cX7_isCell 3 = .ok (.invokestatic 38, 3) := by decide +kernel
theorem dX7_isCell_6 : decode cX7_isCell 6 = .ok (.ifCond .eq 16, 3) := by decide +kernel
theorem dX7_isCell_9 : decode cX7_isCell 9 = .ok (.iload_n 1, 1) := by decide +kernel
theorem dX7_isCell_10 : decode cX7_isCell 10 = .ok (.iconst 0, 1) := by decide +kernel
theorem dX7_isCell_11 : decode cX7_isCell 11 = .ok (.iconst 3, 1) := by decide +kernel
theorem dX7_isCell_12 : decode cX7_isCell 12 = .ok (.invokestatic 38, 3) := by decide +kernel
theorem dX7_isCell_15 : decode cX7_isCell 15 = .ok (.ifCond .eq 7, 3) := by decide +kernel
theorem dX7_isCell_18 : decode cX7_isCell 18 = .ok (.iconst 1, 1) := by decide +kernel
theorem dX7_isCell_19 : decode cX7_isCell 19 = .ok (.goto 4, 3) := by decide +kernel
theorem dX7_isCell_22 : decode cX7_isCell 22 = .ok (.iconst 0, 1) := by decide +kernel
theorem dX7_isCell_23 : decode cX7_isCell 23 = .ok (.ireturn, 1) := by decide +kernel
theorem dX7_teach_0 : decode cX7_teach 0 = .ok (.aload_n 0, 1) := by decide +kernel
theorem dX7_teach_1 : decode cX7_teach 1 = .ok (.iload_n 1, 1) := by decide +kernel
theorem dX7_teach_2 : decode cX7_teach 2 = .ok (.iload_n 2, 1) := by decide +kernel
theorem dX7_teach_3 : decode cX7_teach 3 = .ok (.invokestatic 49, 3) := by decide +kernel
theorem dX7_teach_6 : decode cX7_teach 6 = .ok (.ifCond .ne 7, 3) := by decide +kernel
theorem dX7_teach_9 : decode cX7_teach 9 = .ok (.iconst 1, 1) := by decide +kernel
theorem dX7_teach_10 : decode cX7_teach 10 = .ok (.goto 18, 3) := by decide +kernel
theorem dX7_teach_13 : decode cX7_teach 13 = .ok (.iload_n 3, 1) := by decide +kernel
theorem dX7_teach_14 : decode cX7_teach 14 = .ok (.iconst 0, 1) := by decide +kernel
theorem dX7_teach_15 : decode cX7_teach 15 = .ok (.bipush 100, 2) := by decide +kernel
theorem dX7_teach_17 : decode cX7_teach 17 = .ok (.invokestatic 38, 3) := by decide +kernel
theorem dX7_teach_20 : decode cX7_teach 20 = .ok (.ifCond .eq 7, 3) := by decide +kernel
theorem dX7_teach_23 : decode cX7_teach 23 = .ok (.iconst 0, 1) := by decide +kernel
theorem dX7_teach_24 : decode cX7_teach 24 = .ok (.goto 4, 3) := by decide +kernel
theorem dX7_teach_27 : decode cX7_teach 27 = .ok (.iconst 2, 1) := by decide +kernel
theorem dX7_teach_28 : decode cX7_teach 28 = .ok (.invokevirtual 34, 3) := by decide +kernel
theorem dX7_teach_31 : decode cX7_teach 31 = .ok (.ifCond .eq 5, 3) := by decide +kernel
theorem dX7_teach_34 : decode cX7_teach 34 = .ok (.iconst 0, 1) := by decide +kernel
theorem dX7_teach_35 : decode cX7_teach 35 = .ok (.ireturn, 1) := by decide +kernel
theorem dX7_teach_36 : decode cX7_teach 36 = .ok (.aload_n 0, 1) := by decide +kernel
theorem dX7_teach_37 : decode cX7_teach 37 = .ok (.invokevirtual 42, 3) := by decide +kernel
theorem dX7_teach_40 : decode cX7_teach 40 = .ok (.bipush 49, 2) := by decide +kernel
theorem dX7_teach_42 : decode cX7_teach 42 = .ok (.iconst 4, 1) := by decide +kernel
theorem dX7_teach_43 : decode cX7_teach 43 = .ok (.iload_n 1, 1) := by decide +kernel
theorem dX7_teach_44 : decode cX7_teach 44 = .ok (.imul, 1) := by decide +kernel
theorem dX7_teach_45 : decode cX7_teach 45 = .ok (.iadd, 1) := by decide +kernel
theorem dX7_teach_46 : decode cX7_teach 46 = .ok (.iload_n 2, 1) := by decide +kernel
theorem dX7_teach_47 : decode cX7_teach 47 = .ok (.iadd, 1) := by decide +kernel
theorem dX7_teach_48 : decode cX7_teach 48 = .ok (.istore 4, 2) := by decide +kernel
theorem dX7_teach_50 : decode cX7_teach 50 = .ok (.aload_n 0, 1) := by decide +kernel
theorem dX7_teach_51 : decode cX7_teach 51 = .ok (.getfield 7, 3) := by decide +kernel
theorem dX7_teach_54 : decode cX7_teach 54 = .ok (.iload 4, 2) := by decide +kernel
theorem dX7_teach_56 : decode cX7_teach 56 = .ok (.iaload, 1) := by decide +kernel
theorem dX7_teach_57 : decode cX7_teach 57 = .ok (.istore 5, 2) := by decide +kernel
theorem dX7_teach_59 : decode cX7_teach 59 = .ok (.aload_n 0, 1) := by decide +kernel
theorem dX7_teach_60 : decode cX7_teach 60 = .ok (.getfield 7, 3) := by decide +kernel
theorem dX7_teach_63 : decode cX7_teach 63 = .ok (.iload 4, 2) := by decide +kernel
theorem dX7_teach_65 : decode cX7_teach 65 = .ok (.iload_n 3, 1) := by decide +kernel
theorem dX7_teach_66 : decode cX7_teach 66 = .ok (.iastore, 1) := by decide +kernel
theorem dX7_teach_67 : decode cX7_teach 67 = .ok (.iload 5, 2) := by decide +kernel
theorem dX7_teach_69 : decode cX7_teach 69 = .ok (.ireturn, 1) := by decide +kernel
theorem dX7_breakSensor_0 : decode cX7_breakSensor 0 = .ok (.aload_n 0, 1) := by decide +kernel
theorem dX7_breakSensor_1 : decode cX7_breakSensor 1 = .ok (.iconst 0, 1) := by decide +kernel
theorem dX7_breakSensor_2 : decode cX7_breakSensor 2 = .ok (.putfield 27, 3) := by decide +kernel
theorem dX7_breakSensor_5 : decode cX7_breakSensor 5 = .ok (.aload_n 0, 1) := by decide +kernel
theorem dX7_breakSensor_6 : decode cX7_breakSensor 6 = .ok (.invokevirtual 42, 3) := by decide +kernel
theorem dX7_breakSensor_9 : decode cX7_breakSensor 9 = .ok (.aload_n 0, 1) := by decide +kernel
theorem dX7_breakSensor_10 : decode cX7_breakSensor 10 = .ok (.getfield 7, 3) := by decide +kernel
theorem dX7_breakSensor_13 : decode cX7_breakSensor 13 = .ok (.bipush 11, 2) := by decide +kernel
theorem dX7_breakSensor_15 : decode cX7_breakSensor 15 = .ok (.iaload, 1) := by decide +kernel
theorem dX7_breakSensor_16 : decode cX7_breakSensor 16 = .ok (.iconst 1, 1) := by decide +kernel
theorem dX7_breakSensor_17 : decode cX7_breakSensor 17 = .ok (.if_icmp .ne 7, 3) := by decide +kernel
theorem dX7_breakSensor_20 : decode cX7_breakSensor 20 = .ok (.iconst 1, 1) := by decide +kernel
theorem dX7_breakSensor_21 : decode cX7_breakSensor 21 = .ok (.goto 4, 3) := by decide +kernel
theorem dX7_breakSensor_24 : decode cX7_breakSensor 24 = .ok (.iconst 0, 1) := by decide +kernel
theorem dX7_breakSensor_25 : decode cX7_breakSensor 25 = .ok (.istore_n 2, 1) := by decide +kernel
theorem dX7_breakSensor_26 : decode cX7_breakSensor 26 = .ok (.aload_n 0, 1) := by decide +kernel
theorem dX7_breakSensor_27 : decode cX7_breakSensor 27 = .ok (.getfield 7, 3) := by decide +kernel
theorem dX7_breakSensor_30 : decode cX7_breakSensor 30 = .ok (.bipush 11, 2) := by decide +kernel
theorem dX7_breakSensor_32 : decode cX7_breakSensor 32 = .ok (.iload_n 1, 1) := by decide +kernel
theorem dX7_breakSensor_33 : decode cX7_breakSensor 33 = .ok (.ifCond .eq 7, 3) := by decide +kernel
theorem dX7_breakSensor_36 : decode cX7_breakSensor 36 = .ok (.iconst 1, 1) := by decide +kernel
theorem dX7_breakSensor_37 : decode cX7_breakSensor 37 = .ok (.goto 4, 3) := by decide +kernel
theorem dX7_breakSensor_40 : decode cX7_breakSensor 40 = .ok (.iconst 0, 1) := by decide +kernel
theorem dX7_breakSensor_41 : decode cX7_breakSensor 41 = .ok (.iastore, 1) := by decide +kernel
theorem dX7_breakSensor_42 : decode cX7_breakSensor 42 = .ok (.iload_n 2, 1) := by decide +kernel
theorem dX7_breakSensor_43 : decode cX7_breakSensor 43 = .ok (.ireturn, 1) := by decide +kernel
theorem dX7_seed_0 : decode cX7_seed 0 = .ok (.aload_n 0, 1) := by decide +kernel
theorem dX7_seed_1 : decode cX7_seed 1 = .ok (.iload_n 1, 1) := by decide +kernel
theorem dX7_seed_2 : decode cX7_seed 2 = .ok (.iconst 0, 1) := by decide +kernel
theorem dX7_seed_3 : decode cX7_seed 3 = .ok (.ldc 52, 2) := by decide +kernel
theorem dX7_seed_5 : decode cX7_seed 5 = .ok (.invokestatic 38, 3) := by decide +kernel
theorem dX7_seed_8 : decode cX7_seed 8 = .ok (.ifCond .eq 7, 3) := by decide +kernel
theorem dX7_seed_11 : decode cX7_seed 11 = .ok (.iconst 0, 1) := by decide +kernel
theorem dX7_seed_12 : decode cX7_seed 12 = .ok (.goto 4, 3) := by decide +kernel
theorem dX7_seed_15 : decode cX7_seed 15 = .ok (.iconst 1, 1) := by decide +kernel
theorem dX7_seed_16 : decode cX7_seed 16 = .ok (.invokevirtual 34, 3) := by decide +kernel
theorem dX7_seed_19 : decode cX7_seed 19 = .ok (.ifCond .eq 5, 3) := by decide +kernel
theorem dX7_seed_22 : decode cX7_seed 22 = .ok (.iconst 0, 1) := by decide +kernel
theorem dX7_seed_23 : decode cX7_seed 23 = .ok (.ireturn, 1) := by decide +kernel
theorem dX7_seed_24 : decode cX7_seed 24 = .ok (.aload_n 0, 1) := by decide +kernel
theorem dX7_seed_25 : decode cX7_seed 25 = .ok (.invokevirtual 42, 3) := by decide +kernel
theorem dX7_seed_28 : decode cX7_seed 28 = .ok (.aload_n 0, 1) := by decide +kernel
theorem dX7_seed_29 : decode cX7_seed 29 = .ok (.getfield 7, 3) := by decide +kernel
theorem dX7_seed_32 : decode cX7_seed 32 = .ok (.bipush 10, 2) := by decide +kernel
theorem dX7_seed_34 : decode cX7_seed 34 = .ok (.iaload, 1) := by decide +kernel
theorem dX7_seed_35 : decode cX7_seed 35 = .ok (.istore_n 2, 1) := by decide +kernel
theorem dX7_seed_36 : decode cX7_seed 36 = .ok (.aload_n 0, 1) := by decide +kernel
theorem dX7_seed_37 : decode cX7_seed 37 = .ok (.getfield 7, 3) := by decide +kernel
theorem dX7_seed_40 : decode cX7_seed 40 = .ok (.bipush 10, 2) := by decide +kernel
theorem dX7_seed_42 : decode cX7_seed 42 = .ok (.iload_n 1, 1) := by decide +kernel
theorem dX7_seed_43 : decode cX7_seed 43 = .ok (.iastore, 1) := by decide +kernel
theorem dX7_seed_44 : decode cX7_seed 44 = .ok (.iload_n 2, 1) := by decide +kernel
theorem dX7_seed_45 : decode cX7_seed 45 = .ok (.ireturn, 1) := by decide +kernel
theorem dX7_isPoint_0 : decode cX7_isPoint 0 = .ok (.iload_n 0, 1) := by decide +kernel
theorem dX7_isPoint_1 : decode cX7_isPoint 1 = .ok (.sipush 500, 3) := by decide +kernel
theorem dX7_isPoint_4 : decode cX7_isPoint 4 = .ok (.sipush 7000, 3) := by decide +kernel
theorem dX7_isPoint_7 : decode cX7_isPoint 7 = .ok (.invokestatic 38, 3) := by decide +kernel
theorem dX7_isPoint_10 : decode cX7_isPoint 10 = .ok (.ifCond .eq 17, 3) := by decide +kernel
theorem dX7_isPoint_13 : decode cX7_isPoint 13 = .ok (.iload_n 1, 1) := by decide +kernel
theorem dX7_isPoint_14 : decode cX7_isPoint 14 = .ok (.iconst 0, 1) := by decide +kernel
theorem dX7_isPoint_15 : decode cX7_isPoint 15 = .ok (.bipush 100, 2) := by decide +kernel
theorem dX7_isPoint_17 : decode cX7_isPoint 17 = .ok (.invokestatic 38, 3) := by decide +kernel
theorem dX7_isPoint_20 : decode cX7_isPoint 20 = .ok (.ifCond .eq 7, 3) := by decide +kernel
theorem dX7_isPoint_23 : decode cX7_isPoint 23 = .ok (.iconst 1, 1) := by decide +kernel
theorem dX7_isPoint_24 : decode cX7_isPoint 24 = .ok (.goto 4, 3) := by decide +kernel
theorem dX7_isPoint_27 : decode cX7_isPoint 27 = .ok (.iconst 0, 1) := by decide +kernel
theorem dX7_isPoint_28 : decode cX7_isPoint 28 = .ok (.ireturn, 1) := by decide +kernel
theorem dX7_cellOf_0 : decode cX7_cellOf 0 = .ok (.iconst 4, 1) := by decide +kernel
theorem dX7_cellOf_1 : decode cX7_cellOf 1 = .ok (.iload_n 0, 1) := by decide +kernel
theorem dX7_cellOf_2 : decode cX7_cellOf 2 = .ok (.sipush 500, 3) := by decide +kernel
theorem dX7_cellOf_5 : decode cX7_cellOf 5 = .ok (.isub, 1) := by decide +kernel
theorem dX7_cellOf_6 : decode cX7_cellOf 6 = .ok (.sipush 1000, 3) := by decide +kernel
theorem dX7_cellOf_9 : decode cX7_cellOf 9 = .ok (.idiv, 1) := by decide +kernel
theorem dX7_cellOf_10 : decode cX7_cellOf 10 = .ok (.iconst 5, 1) := by decide +kernel
theorem dX7_cellOf_11 : decode cX7_cellOf 11 = .ok (.invokestatic 53, 3) := by decide +kernel
theorem dX7_cellOf_14 : decode cX7_cellOf 14 = .ok (.imul, 1) := by decide +kernel
theorem dX7_cellOf_15 : decode cX7_cellOf 15 = .ok (.iload_n 1, 1) := by decide +kernel
theorem dX7_cellOf_16 : decode cX7_cellOf 16 = .ok (.bipush 25, 2) := by decide +kernel
theorem dX7_cellOf_18 : decode cX7_cellOf 18 = .ok (.idiv, 1) := by decide +kernel
theorem dX7_cellOf_19 : decode cX7_cellOf 19 = .ok (.iconst 3, 1) := by decide +kernel
theorem dX7_cellOf_20 : decode cX7_cellOf 20 = .ok (.invokestatic 53, 3) := by decide +kernel
theorem dX7_cellOf_23 : decode cX7_cellOf 23 = .ok (.iadd, 1) := by decide +kernel
theorem dX7_cellOf_24 : decode cX7_cellOf 24 = .ok (.ireturn, 1) := by decide +kernel
theorem dX7_retard_0 : decode cX7_retard 0 = .ok (.aload_n 0, 1) := by decide +kernel
theorem dX7_retard_1 : decode cX7_retard 1 = .ok (.getfield 7, 3) := by decide +kernel
theorem dX7_retard_4 : decode cX7_retard 4 = .ok (.bipush 12, 2) := by decide +kernel
theorem dX7_retard_6 : decode cX7_retard 6 = .ok (.iaload, 1) := by decide +kernel
theorem dX7_retard_7 : decode cX7_retard 7 = .ok (.iconst 1, 1) := by decide +kernel
theorem dX7_retard_8 : decode cX7_retard 8 = .ok (.if_icmp .ne 13, 3) := by decide +kernel
theorem dX7_retard_11 : decode cX7_retard 11 = .ok (.aload_n 0, 1) := by decide +kernel
theorem dX7_retard_12 : decode cX7_retard 12 = .ok (.getfield 7, 3) := by decide +kernel
theorem dX7_retard_15 : decode cX7_retard 15 = .ok (.bipush 7, 2) := by decide +kernel
theorem dX7_retard_17 : decode cX7_retard 17 = .ok (.iaload, 1) := by decide +kernel
theorem dX7_retard_18 : decode cX7_retard 18 = .ok (.goto 12, 3) := by decide +kernel
theorem dX7_retard_21 : decode cX7_retard 21 = .ok (.aload_n 0, 1) := by decide +kernel
theorem dX7_retard_22 : decode cX7_retard 22 = .ok (.getfield 7, 3) := by decide +kernel
theorem dX7_retard_25 : decode cX7_retard 25 = .ok (.bipush 17, 2) := by decide +kernel
theorem dX7_retard_27 : decode cX7_retard 27 = .ok (.iload_n 1, 1) := by decide +kernel
theorem dX7_retard_28 : decode cX7_retard 28 = .ok (.iadd, 1) := by decide +kernel
theorem dX7_retard_29 : decode cX7_retard 29 = .ok (.iaload, 1) := by decide +kernel
theorem dX7_retard_30 : decode cX7_retard 30 = .ok (.aload_n 0, 1) := by decide +kernel
theorem dX7_retard_31 : decode cX7_retard 31 = .ok (.getfield 7, 3) := by decide +kernel
theorem dX7_retard_34 : decode cX7_retard 34 = .ok (.bipush 49, 2) := by decide +kernel
theorem dX7_retard_36 : decode cX7_retard 36 = .ok (.iload_n 2, 1) := by decide +kernel
theorem dX7_retard_37 : decode cX7_retard 37 = .ok (.iadd, 1) := by decide +kernel
theorem dX7_retard_38 : decode cX7_retard 38 = .ok (.iaload, 1) := by decide +kernel
theorem dX7_retard_39 : decode cX7_retard 39 = .ok (.iadd, 1) := by decide +kernel
theorem dX7_retard_40 : decode cX7_retard 40 = .ok (.aload_n 0, 1) := by decide +kernel
theorem dX7_retard_41 : decode cX7_retard 41 = .ok (.getfield 7, 3) := by decide +kernel
theorem dX7_retard_44 : decode cX7_retard 44 = .ok (.iconst 3, 1) := by decide +kernel
theorem dX7_retard_45 : decode cX7_retard 45 = .ok (.iaload, 1) := by decide +kernel
theorem dX7_retard_46 : decode cX7_retard 46 = .ok (.invokestatic 53, 3) := by decide +kernel
theorem dX7_retard_49 : decode cX7_retard 49 = .ok (.ireturn, 1) := by decide +kernel
theorem dX7_advance_0 : decode cX7_advance 0 = .ok (.bipush 100, 2) := by decide +kernel
theorem dX7_advance_2 : decode cX7_advance 2 = .ok (.iload_n 2, 1) := by decide +kernel
theorem dX7_advance_3 : decode cX7_advance 3 = .ok (.bipush 50, 2) := by decide +kernel
theorem dX7_advance_5 : decode cX7_advance 5 = .ok (.idiv, 1) := by decide +kernel
theorem dX7_advance_6 : decode cX7_advance 6 = .ok (.iadd, 1) := by decide +kernel
theorem dX7_advance_7 : decode cX7_advance 7 = .ok (.iload_n 3, 1) := by decide +kernel
theorem dX7_advance_8 : decode cX7_advance 8 = .ok (.isub, 1) := by decide +kernel
theorem dX7_advance_9 : decode cX7_advance 9 = .ok (.aload_n 0, 1) := by decide +kernel
theorem dX7_advance_10 : decode cX7_advance 10 = .ok (.iload_n 1, 1) := by decide +kernel
theorem dX7_advance_11 : decode cX7_advance 11 = .ok (.iload_n 2, 1) := by decide +kernel
theorem dX7_advance_12 : decode cX7_advance 12 = .ok (.iload_n 3, 1) := by decide +kernel
theorem dX7_advance_13 : decode cX7_advance 13 = .ok (.invokestatic 57, 3) := by decide +kernel
theorem dX7_advance_16 : decode cX7_advance 16 = .ok (.invokevirtual 60, 3) := by decide +kernel
theorem dX7_advance_19 : decode cX7_advance 19 = .ok (.isub, 1) := by decide +kernel
theorem dX7_advance_20 : decode cX7_advance 20 = .ok (.ireturn, 1) := by decide +kernel
theorem dX7_threshold_0 : decode cX7_threshold 0 = .ok (.aload_n 0, 1) := by decide +kernel
theorem dX7_threshold_1 : decode cX7_threshold 1 = .ok (.getfield 7, 3) := by decide +kernel
theorem dX7_threshold_4 : decode cX7_threshold 4 = .ok (.bipush 25, 2) := by decide +kernel
theorem dX7_threshold_6 : decode cX7_threshold 6 = .ok (.iload_n 1, 1) := by decide +kernel
theorem dX7_threshold_7 : decode cX7_threshold 7 = .ok (.iadd, 1) := by decide +kernel
theorem dX7_threshold_8 : decode cX7_threshold 8 = .ok (.iaload, 1) := by decide +kernel
theorem dX7_threshold_9 : decode cX7_threshold 9 = .ok (.aload_n 0, 1) := by decide +kernel
theorem dX7_threshold_10 : decode cX7_threshold 10 = .ok (.getfield 7, 3) := by decide +kernel
theorem dX7_threshold_13 : decode cX7_threshold 13 = .ok (.iconst 0, 1) := by decide +kernel
theorem dX7_threshold_14 : decode cX7_threshold 14 = .ok (.iaload, 1) := by decide +kernel
theorem dX7_threshold_15 : decode cX7_threshold 15 = .ok (.imul, 1) := by decide +kernel
theorem dX7_threshold_16 : decode cX7_threshold 16 = .ok (.sipush 4096, 3) := by decide +kernel
theorem dX7_threshold_19 : decode cX7_threshold 19 = .ok (.idiv, 1) := by decide +kernel
theorem dX7_threshold_20 : decode cX7_threshold 20 = .ok (.bipush 50, 2) := by decide +kernel
theorem dX7_threshold_22 : decode cX7_threshold 22 = .ok (.iadd, 1) := by decide +kernel
theorem dX7_threshold_23 : decode cX7_threshold 23 = .ok (.ireturn, 1) := by decide +kernel
theorem dX7_logs_0 : decode cX7_logs 0 = .ok (.aload_n 0, 1) := by decide +kernel
theorem dX7_logs_1 : decode cX7_logs 1 = .ok (.getfield 7, 3) := by decide +kernel
theorem dX7_logs_4 : decode cX7_logs 4 = .ok (.bipush 73, 2) := by decide +kernel
theorem dX7_logs_6 : decode cX7_logs 6 = .ok (.iaload, 1) := by decide +kernel
theorem dX7_logs_7 : decode cX7_logs 7 = .ok (.bipush 60, 2) := by decide +kernel
theorem dX7_logs_9 : decode cX7_logs 9 = .ok (.if_icmp .ne 49, 3) := by decide +kernel
theorem dX7_logs_12 : decode cX7_logs 12 = .ok (.iconst 0, 1) := by decide +kernel
theorem dX7_logs_13 : decode cX7_logs 13 = .ok (.istore_n 3, 1) := by decide +kernel
theorem dX7_logs_14 : decode cX7_logs 14 = .ok (.iload_n 3, 1) := by decide +kernel
theorem dX7_logs_15 : decode cX7_logs 15 = .ok (.sipush 177, 3) := by decide +kernel
theorem dX7_logs_18 : decode cX7_logs 18 = .ok (.if_icmp .ge 29, 3) := by decide +kernel
theorem dX7_logs_21 : decode cX7_logs 21 = .ok (.aload_n 0, 1) := by decide +kernel
theorem dX7_logs_22 : decode cX7_logs 22 = .ok (.getfield 7, 3) := by decide +kernel
theorem dX7_logs_25 : decode cX7_logs 25 = .ok (.bipush 74, 2) := by decide +kernel
theorem dX7_logs_27 : decode cX7_logs 27 = .ok (.iload_n 3, 1) := by decide +kernel
theorem dX7_logs_28 : decode cX7_logs 28 = .ok (.iadd, 1) := by decide +kernel
theorem dX7_logs_29 : decode cX7_logs 29 = .ok (.aload_n 0, 1) := by decide +kernel
theorem dX7_logs_30 : decode cX7_logs 30 = .ok (.getfield 7, 3) := by decide +kernel
theorem dX7_logs_33 : decode cX7_logs 33 = .ok (.bipush 74, 2) := by decide +kernel
theorem dX7_logs_35 : decode cX7_logs 35 = .ok (.iload_n 3, 1) := by decide +kernel
theorem dX7_logs_36 : decode cX7_logs 36 = .ok (.iadd, 1) := by decide +kernel
theorem dX7_logs_37 : decode cX7_logs 37 = .ok (.iconst 3, 1) := by decide +kernel
theorem dX7_logs_38 : decode cX7_logs 38 = .ok (.iadd, 1) := by decide +kernel
theorem dX7_logs_39 : decode cX7_logs 39 = .ok (.iaload, 1) := by decide +kernel
theorem dX7_logs_40 : decode cX7_logs 40 = .ok (.iastore, 1) := by decide +kernel
theorem dX7_logs_41 : decode cX7_logs 41 = .ok (.iinc 3 1, 3) := by decide +kernel
theorem dX7_logs_44 : decode cX7_logs 44 = .ok (.goto (-30), 3) := by decide +kernel
theorem dX7_logs_47 : decode cX7_logs 47 = .ok (.aload_n 0, 1) := by decide +kernel
theorem dX7_logs_48 : decode cX7_logs 48 = .ok (.getfield 7, 3) := by decide +kernel
theorem dX7_logs_51 : decode cX7_logs 51 = .ok (.bipush 73, 2) := by decide +kernel
theorem dX7_logs_53 : decode cX7_logs 53 = .ok (.dup2, 1) := by decide +kernel
theorem dX7_logs_54 : decode cX7_logs 54 = .ok (.iaload, 1) := by decide +kernel
theorem dX7_logs_55 : decode cX7_logs 55 = .ok (.iconst 1, 1) := by decide +kernel
theorem dX7_logs_56 : decode cX7_logs 56 = .ok (.isub, 1) := by decide +kernel
theorem dX7_logs_57 : decode cX7_logs 57 = .ok (.iastore, 1) := by decide +kernel
theorem dX7_logs_58 : decode cX7_logs 58 = .ok (.bipush 74, 2) := by decide +kernel
theorem dX7_logs_60 : decode cX7_logs 60 = .ok (.iconst 3, 1) := by decide +kernel
theorem dX7_logs_61 : decode cX7_logs 61 = .ok (.aload_n 0, 1) := by decide +kernel
theorem dX7_logs_62 : decode cX7_logs 62 = .ok (.getfield 7, 3) := by decide +kernel
theorem dX7_logs_65 : decode cX7_logs 65 = .ok (.bipush 73, 2) := by decide +kernel
theorem dX7_logs_67 : decode cX7_logs 67 = .ok (.iaload, 1) := by decide +kernel
theorem dX7_logs_68 : decode cX7_logs 68 = .ok (.imul, 1) := by decide +kernel
theorem dX7_logs_69 : decode cX7_logs 69 = .ok (.iadd, 1) := by decide +kernel
theorem dX7_logs_70 : decode cX7_logs 70 = .ok (.istore_n 3, 1) := by decide +kernel
theorem dX7_logs_71 : decode cX7_logs 71 = .ok (.aload_n 0, 1) := by decide +kernel
theorem dX7_logs_72 : decode cX7_logs 72 = .ok (.getfield 7, 3) := by decide +kernel
theorem dX7_logs_75 : decode cX7_logs 75 = .ok (.iload_n 3, 1) := by decide +kernel
theorem dX7_logs_76 : decode cX7_logs 76 = .ok (.iload_n 1, 1) := by decide +kernel
theorem dX7_logs_77 : decode cX7_logs 77 = .ok (.iastore, 1) := by decide +kernel
theorem dX7_logs_78 : decode cX7_logs 78 = .ok (.aload_n 0, 1) := by decide +kernel
theorem dX7_logs_79 : decode cX7_logs 79 = .ok (.getfield 7, 3) := by decide +kernel
theorem dX7_logs_82 : decode cX7_logs 82 = .ok (.iload_n 3, 1) := by decide +kernel
theorem dX7_logs_83 : decode cX7_logs 83 = .ok (.iconst 1, 1) := by decide +kernel
theorem dX7_logs_84 : decode cX7_logs 84 = .ok (.iadd, 1) := by decide +kernel
theorem dX7_logs_85 : decode cX7_logs 85 = .ok (.iload_n 2, 1) := by decide +kernel
theorem dX7_logs_86 : decode cX7_logs 86 = .ok (.iastore, 1) := by decide +kernel
theorem dX7_logs_87 : decode cX7_logs 87 = .ok (.aload_n 0, 1) := by decide +kernel
theorem dX7_logs_88 : decode cX7_logs 88 = .ok (.getfield 7, 3) := by decide +kernel
theorem dX7_logs_91 : decode cX7_logs 91 = .ok (.iload_n 3, 1) := by decide +kernel
theorem dX7_logs_92 : decode cX7_logs 92 = .ok (.iconst 2, 1) := by decide +kernel
theorem dX7_logs_93 : decode cX7_logs 93 = .ok (.iadd, 1) := by decide +kernel
theorem dX7_logs_94 : decode cX7_logs 94 = .ok (.aload_n 0, 1) := by decide +kernel
theorem dX7_logs_95 : decode cX7_logs 95 = .ok (.getfield 7, 3) := by decide +kernel
theorem dX7_logs_98 : decode cX7_logs 98 = .ok (.bipush 9, 2) := by decide +kernel
theorem dX7_logs_100 : decode cX7_logs 100 = .ok (.iaload, 1) := by decide +kernel
theorem dX7_logs_101 : decode cX7_logs 101 = .ok (.iastore, 1) := by decide +kernel
theorem dX7_logs_102 : decode cX7_logs 102 = .ok (.aload_n 0, 1) := by decide +kernel
theorem dX7_logs_103 : decode cX7_logs 103 = .ok (.getfield 7, 3) := by decide +kernel
theorem dX7_logs_106 : decode cX7_logs 106 = .ok (.bipush 73, 2) := by decide +kernel
theorem dX7_logs_108 : decode cX7_logs 108 = .ok (.dup2, 1) := by decide +kernel
theorem dX7_logs_109 : decode cX7_logs 109 = .ok (.iaload, 1) := by decide +kernel
theorem dX7_logs_110 : decode cX7_logs 110 = .ok (.iconst 1, 1) := by decide +kernel
theorem dX7_logs_111 : decode cX7_logs 111 = .ok (.iadd, 1) := by decide +kernel
theorem dX7_logs_112 : decode cX7_logs 112 = .ok (.iastore, 1) := by decide +kernel
theorem dX7_logs_113 : decode cX7_logs 113 = .ok (.return_, 1) := by decide +kernel
theorem dX7_senses_0 : decode cX7_senses 0 = .ok (.iload_n 1, 1) := by decide +kernel
theorem dX7_senses_1 : decode cX7_senses 1 = .ok (.aload_n 0, 1) := by decide +kernel
theorem dX7_senses_2 : decode cX7_senses 2 = .ok (.getfield 7, 3) := by decide +kernel
theorem dX7_senses_5 : decode cX7_senses 5 = .ok (.bipush 6, 2) := by decide +kernel
theorem dX7_senses_7 : decode cX7_senses 7 = .ok (.iaload, 1) := by decide +kernel
theorem dX7_senses_8 : decode cX7_senses 8 = .ok (.if_icmp .ge 7, 3) := by decide +kernel
theorem dX7_senses_11 : decode cX7_senses 11 = .ok (.iconst 1, 1) := by decide +kernel
theorem dX7_senses_12 : decode cX7_senses 12 = .ok (.goto 4, 3) := by decide +kernel
theorem dX7_senses_15 : decode cX7_senses 15 = .ok (.iconst 0, 1) := by decide +kernel
theorem dX7_senses_16 : decode cX7_senses 16 = .ok (.istore_n 2, 1) := by decide +kernel
theorem dX7_senses_17 : decode cX7_senses 17 = .ok (.aload_n 0, 1) := by decide +kernel
theorem dX7_senses_18 : decode cX7_senses 18 = .ok (.getfield 7, 3) := by decide +kernel
theorem dX7_senses_21 : decode cX7_senses 21 = .ok (.bipush 13, 2) := by decide +kernel
theorem dX7_senses_23 : decode cX7_senses 23 = .ok (.iload_n 2, 1) := by decide +kernel
theorem dX7_senses_24 : decode cX7_senses 24 = .ok (.ifCond .eq 15, 3) := by decide +kernel
theorem dX7_senses_27 : decode cX7_senses 27 = .ok (.aload_n 0, 1) := by decide +kernel
theorem dX7_senses_28 : decode cX7_senses 28 = .ok (.getfield 7, 3) := by decide +kernel
theorem dX7_senses_31 : decode cX7_senses 31 = .ok (.bipush 13, 2) := by decide +kernel
theorem dX7_senses_33 : decode cX7_senses 33 = .ok (.iaload, 1) := by decide +kernel
theorem dX7_senses_34 : decode cX7_senses 34 = .ok (.iconst 1, 1) := by decide +kernel
theorem dX7_senses_35 : decode cX7_senses 35 = .ok (.iadd, 1) := by decide +kernel
theorem dX7_senses_36 : decode cX7_senses 36 = .ok (.goto 4, 3) := by decide +kernel
theorem dX7_senses_39 : decode cX7_senses 39 = .ok (.iconst 0, 1) := by decide +kernel
theorem dX7_senses_40 : decode cX7_senses 40 = .ok (.iastore, 1) := by decide +kernel
theorem dX7_senses_41 : decode cX7_senses 41 = .ok (.aload_n 0, 1) := by decide +kernel
theorem dX7_senses_42 : decode cX7_senses 42 = .ok (.getfield 7, 3) := by decide +kernel
theorem dX7_senses_45 : decode cX7_senses 45 = .ok (.bipush 14, 2) := by decide +kernel
theorem dX7_senses_47 : decode cX7_senses 47 = .ok (.iload_n 2, 1) := by decide +kernel
theorem dX7_senses_48 : decode cX7_senses 48 = .ok (.ifCond .eq 7, 3) := by decide +kernel
theorem dX7_senses_51 : decode cX7_senses 51 = .ok (.iconst 0, 1) := by decide +kernel
theorem dX7_senses_52 : decode cX7_senses 52 = .ok (.goto 12, 3) := by decide +kernel
theorem dX7_senses_55 : decode cX7_senses 55 = .ok (.aload_n 0, 1) := by decide +kernel
theorem dX7_senses_56 : decode cX7_senses 56 = .ok (.getfield 7, 3) := by decide +kernel
theorem dX7_senses_59 : decode cX7_senses 59 = .ok (.bipush 14, 2) := by decide +kernel
theorem dX7_senses_61 : decode cX7_senses 61 = .ok (.iaload, 1) := by decide +kernel
theorem dX7_senses_62 : decode cX7_senses 62 = .ok (.iconst 1, 1) := by decide +kernel
theorem dX7_senses_63 : decode cX7_senses 63 = .ok (.iadd, 1) := by decide +kernel
theorem dX7_senses_64 : decode cX7_senses 64 = .ok (.iastore, 1) := by decide +kernel
theorem dX7_senses_65 : decode cX7_senses 65 = .ok (.aload_n 0, 1) := by decide +kernel
theorem dX7_senses_66 : decode cX7_senses 66 = .ok (.getfield 7, 3) := by decide +kernel
theorem dX7_senses_69 : decode cX7_senses 69 = .ok (.bipush 12, 2) := by decide +kernel
theorem dX7_senses_71 : decode cX7_senses 71 = .ok (.iaload, 1) := by decide +kernel
theorem dX7_senses_72 : decode cX7_senses 72 = .ok (.ifCond .ne 32, 3) := by decide +kernel
theorem dX7_senses_75 : decode cX7_senses 75 = .ok (.aload_n 0, 1) := by decide +kernel
theorem dX7_senses_76 : decode cX7_senses 76 = .ok (.getfield 7, 3) := by decide +kernel
theorem dX7_senses_79 : decode cX7_senses 79 = .ok (.bipush 13, 2) := by decide +kernel
theorem dX7_senses_81 : decode cX7_senses 81 = .ok (.iaload, 1) := by decide +kernel
theorem dX7_senses_82 : decode cX7_senses 82 = .ok (.bipush 20, 2) := by decide +kernel
theorem dX7_senses_84 : decode cX7_senses 84 = .ok (.if_icmp .lt 20, 3) := by decide +kernel
theorem dX7_senses_87 : decode cX7_senses 87 = .ok (.aload_n 0, 1) := by decide +kernel
theorem dX7_senses_88 : decode cX7_senses 88 = .ok (.getfield 7, 3) := by decide +kernel
theorem dX7_senses_91 : decode cX7_senses 91 = .ok (.bipush 12, 2) := by decide +kernel
theorem dX7_senses_93 : decode cX7_senses 93 = .ok (.iconst 1, 1) := by decide +kernel
theorem dX7_senses_94 : decode cX7_senses 94 = .ok (.iastore, 1) := by decide +kernel
theorem dX7_senses_95 : decode cX7_senses 95 = .ok (.aload_n 0, 1) := by decide +kernel
theorem dX7_senses_96 : decode cX7_senses 96 = .ok (.iconst 1, 1) := by decide +kernel
theorem dX7_senses_97 : decode cX7_senses 97 = .ok (.iconst 0, 1) := by decide +kernel
theorem dX7_senses_98 : decode cX7_senses 98 = .ok (.invokevirtual 63, 3) := by decide +kernel
theorem dX7_senses_101 : decode cX7_senses 101 = .ok (.goto 40, 3) := by decide +kernel
theorem dX7_senses_104 : decode cX7_senses 104 = .ok (.aload_n 0, 1) := by decide +kernel
theorem dX7_senses_105 : decode cX7_senses 105 = .ok (.getfield 7, 3) := by decide +kernel
theorem dX7_senses_108 : decode cX7_senses 108 = .ok (.bipush 12, 2) := by decide +kernel
theorem dX7_senses_110 : decode cX7_senses 110 = .ok (.iaload, 1) := by decide +kernel
theorem dX7_senses_111 : decode cX7_senses 111 = .ok (.iconst 1, 1) := by decide +kernel
theorem dX7_senses_112 : decode cX7_senses 112 = .ok (.if_icmp .ne 29, 3) := by decide +kernel
theorem dX7_senses_115 : decode cX7_senses 115 = .ok (.aload_n 0, 1) := by decide +kernel
theorem dX7_senses_116 : decode cX7_senses 116 = .ok (.getfield 7, 3) := by decide +kernel
theorem dX7_senses_119 : decode cX7_senses 119 = .ok (.bipush 14, 2) := by decide +kernel
theorem dX7_senses_121 : decode cX7_senses 121 = .ok (.iaload, 1) := by decide +kernel
theorem dX7_senses_122 : decode cX7_senses 122 = .ok (.bipush 50, 2) := by decide +kernel
theorem dX7_senses_124 : decode cX7_senses 124 = .ok (.if_icmp .lt 17, 3) := by decide +kernel
theorem dX7_senses_127 : decode cX7_senses 127 = .ok (.aload_n 0, 1) := by decide +kernel
theorem dX7_senses_128 : decode cX7_senses 128 = .ok (.getfield 7, 3) := by decide +kernel
theorem dX7_senses_131 : decode cX7_senses 131 = .ok (.bipush 12, 2) := by decide +kernel
theorem dX7_senses_133 : decode cX7_senses 133 = .ok (.iconst 0, 1) := by decide +kernel
theorem dX7_senses_134 : decode cX7_senses 134 = .ok (.iastore, 1) := by decide +kernel
theorem dX7_senses_135 : decode cX7_senses 135 = .ok (.aload_n 0, 1) := by decide +kernel
theorem dX7_senses_136 : decode cX7_senses 136 = .ok (.iconst 2, 1) := by decide +kernel
theorem dX7_senses_137 : decode cX7_senses 137 = .ok (.iconst 0, 1) := by decide +kernel
theorem dX7_senses_138 : decode cX7_senses 138 = .ok (.invokevirtual 63, 3) := by decide +kernel
theorem dX7_senses_141 : decode cX7_senses 141 = .ok (.return_, 1) := by decide +kernel
theorem dX7_knocks_0 : decode cX7_knocks 0 = .ok (.aload_n 0, 1) := by decide +kernel
theorem dX7_knocks_1 : decode cX7_knocks 1 = .ok (.getfield 7, 3) := by decide +kernel
theorem dX7_knocks_4 : decode cX7_knocks 4 = .ok (.iconst 1, 1) := by decide +kernel
theorem dX7_knocks_5 : decode cX7_knocks 5 = .ok (.iaload, 1) := by decide +kernel
theorem dX7_knocks_6 : decode cX7_knocks 6 = .ok (.iconst 3, 1) := by decide +kernel
theorem dX7_knocks_7 : decode cX7_knocks 7 = .ok (.aload_n 0, 1) := by decide +kernel
theorem dX7_knocks_8 : decode cX7_knocks 8 = .ok (.getfield 7, 3) := by decide +kernel
theorem dX7_knocks_11 : decode cX7_knocks 11 = .ok (.iconst 1, 1) := by decide +kernel
theorem dX7_knocks_12 : decode cX7_knocks 12 = .ok (.iaload, 1) := by decide +kernel
theorem dX7_knocks_13 : decode cX7_knocks 13 = .ok (.imul, 1) := by decide +kernel
theorem dX7_knocks_14 : decode cX7_knocks 14 = .ok (.aload_n 0, 1) := by decide +kernel
theorem dX7_knocks_15 : decode cX7_knocks 15 = .ok (.getfield 7, 3) := by decide +kernel
theorem dX7_knocks_18 : decode cX7_knocks 18 = .ok (.iconst 1, 1) := by decide +kernel
theorem dX7_knocks_19 : decode cX7_knocks 19 = .ok (.iaload, 1) := by decide +kernel
theorem dX7_knocks_20 : decode cX7_knocks 20 = .ok (.iload_n 3, 1) := by decide +kernel
theorem dX7_knocks_21 : decode cX7_knocks 21 = .ok (.iload 4, 2) := by decide +kernel
theorem dX7_knocks_23 : decode cX7_knocks 23 = .ok (.isub, 1) := by decide +kernel
theorem dX7_knocks_24 : decode cX7_knocks 24 = .ok (.imul, 1) := by decide +kernel
theorem dX7_knocks_25 : decode cX7_knocks 25 = .ok (.iload 4, 2) := by decide +kernel
theorem dX7_knocks_27 : decode cX7_knocks 27 = .ok (.idiv, 1) := by decide +kernel
theorem dX7_knocks_28 : decode cX7_knocks 28 = .ok (.invokestatic 53, 3) := by decide +kernel
theorem dX7_knocks_31 : decode cX7_knocks 31 = .ok (.iadd, 1) := by decide +kernel
theorem dX7_knocks_32 : decode cX7_knocks 32 = .ok (.istore 5, 2) := by decide +kernel
theorem dX7_knocks_34 : decode cX7_knocks 34 = .ok (.aload_n 0, 1) := by decide +kernel
theorem dX7_knocks_35 : decode cX7_knocks 35 = .ok (.getfield 7, 3) := by decide +kernel
theorem dX7_knocks_38 : decode cX7_knocks 38 = .ok (.iconst 3, 1) := by decide +kernel
theorem dX7_knocks_39 : decode cX7_knocks 39 = .ok (.iaload, 1) := by decide +kernel
theorem dX7_knocks_40 : decode cX7_knocks 40 = .ok (.aload_n 0, 1) := by decide +kernel
theorem dX7_knocks_41 : decode cX7_knocks 41 = .ok (.getfield 7, 3) := by decide +kernel
theorem dX7_knocks_44 : decode cX7_knocks 44 = .ok (.bipush 49, 2) := by decide +kernel
theorem dX7_knocks_46 : decode cX7_knocks 46 = .ok (.iload_n 2, 1) := by decide +kernel
theorem dX7_knocks_47 : decode cX7_knocks 47 = .ok (.iadd, 1) := by decide +kernel
theorem dX7_knocks_48 : decode cX7_knocks 48 = .ok (.iaload, 1) := by decide +kernel
theorem dX7_knocks_49 : decode cX7_knocks 49 = .ok (.isub, 1) := by decide +kernel
theorem dX7_knocks_50 : decode cX7_knocks 50 = .ok (.istore 6, 2) := by decide +kernel
theorem dX7_knocks_52 : decode cX7_knocks 52 = .ok (.aload_n 0, 1) := by decide +kernel
theorem dX7_knocks_53 : decode cX7_knocks 53 = .ok (.getfield 7, 3) := by decide +kernel
theorem dX7_knocks_56 : decode cX7_knocks 56 = .ok (.bipush 17, 2) := by decide +kernel
theorem dX7_knocks_58 : decode cX7_knocks 58 = .ok (.iload_n 1, 1) := by decide +kernel
theorem dX7_knocks_59 : decode cX7_knocks 59 = .ok (.iadd, 1) := by decide +kernel
theorem dX7_knocks_60 : decode cX7_knocks 60 = .ok (.iaload, 1) := by decide +kernel
theorem dX7_knocks_61 : decode cX7_knocks 61 = .ok (.iload 5, 2) := by decide +kernel
theorem dX7_knocks_63 : decode cX7_knocks 63 = .ok (.iadd, 1) := by decide +kernel
theorem dX7_knocks_64 : decode cX7_knocks 64 = .ok (.iload 6, 2) := by decide +kernel
theorem dX7_knocks_66 : decode cX7_knocks 66 = .ok (.invokestatic 53, 3) := by decide +kernel
theorem dX7_knocks_69 : decode cX7_knocks 69 = .ok (.istore 7, 2) := by decide +kernel
theorem dX7_knocks_71 : decode cX7_knocks 71 = .ok (.aload_n 0, 1) := by decide +kernel
theorem dX7_knocks_72 : decode cX7_knocks 72 = .ok (.getfield 7, 3) := by decide +kernel
theorem dX7_knocks_75 : decode cX7_knocks 75 = .ok (.bipush 17, 2) := by decide +kernel
theorem dX7_knocks_77 : decode cX7_knocks 77 = .ok (.iload_n 1, 1) := by decide +kernel
theorem dX7_knocks_78 : decode cX7_knocks 78 = .ok (.iadd, 1) := by decide +kernel
theorem dX7_knocks_79 : decode cX7_knocks 79 = .ok (.iload 7, 2) := by decide +kernel
theorem dX7_knocks_81 : decode cX7_knocks 81 = .ok (.aload_n 0, 1) := by decide +kernel
theorem dX7_knocks_82 : decode cX7_knocks 82 = .ok (.getfield 7, 3) := by decide +kernel
theorem dX7_knocks_85 : decode cX7_knocks 85 = .ok (.bipush 17, 2) := by decide +kernel
theorem dX7_knocks_87 : decode cX7_knocks 87 = .ok (.iload_n 1, 1) := by decide +kernel
theorem dX7_knocks_88 : decode cX7_knocks 88 = .ok (.iadd, 1) := by decide +kernel
theorem dX7_knocks_89 : decode cX7_knocks 89 = .ok (.iaload, 1) := by decide +kernel
theorem dX7_knocks_90 : decode cX7_knocks 90 = .ok (.if_icmp .le 8, 3) := by decide +kernel
theorem dX7_knocks_93 : decode cX7_knocks 93 = .ok (.iload 7, 2) := by decide +kernel
theorem dX7_knocks_95 : decode cX7_knocks 95 = .ok (.goto 12, 3) := by decide +kernel
theorem dX7_knocks_98 : decode cX7_knocks 98 = .ok (.aload_n 0, 1) := by decide +kernel
theorem dX7_knocks_99 : decode cX7_knocks 99 = .ok (.getfield 7, 3) := by decide +kernel
theorem dX7_knocks_102 : decode cX7_knocks 102 = .ok (.bipush 17, 2) := by decide +kernel
theorem dX7_knocks_104 : decode cX7_knocks 104 = .ok (.iload_n 1, 1) := by decide +kernel
theorem dX7_knocks_105 : decode cX7_knocks 105 = .ok (.iadd, 1) := by decide +kernel
theorem dX7_knocks_106 : decode cX7_knocks 106 = .ok (.iaload, 1) := by decide +kernel
theorem dX7_knocks_107 : decode cX7_knocks 107 = .ok (.iastore, 1) := by decide +kernel
theorem dX7_knocks_108 : decode cX7_knocks 108 = .ok (.aload_n 0, 1) := by decide +kernel
theorem dX7_knocks_109 : decode cX7_knocks 109 = .ok (.getfield 7, 3) := by decide +kernel
theorem dX7_knocks_112 : decode cX7_knocks 112 = .ok (.bipush 33, 2) := by decide +kernel
theorem dX7_knocks_114 : decode cX7_knocks 114 = .ok (.iload_n 1, 1) := by decide +kernel
theorem dX7_knocks_115 : decode cX7_knocks 115 = .ok (.iadd, 1) := by decide +kernel
theorem dX7_knocks_116 : decode cX7_knocks 116 = .ok (.iconst 0, 1) := by decide +kernel
theorem dX7_knocks_117 : decode cX7_knocks 117 = .ok (.iastore, 1) := by decide +kernel
theorem dX7_knocks_118 : decode cX7_knocks 118 = .ok (.aload_n 0, 1) := by decide +kernel
theorem dX7_knocks_119 : decode cX7_knocks 119 = .ok (.getfield 7, 3) := by decide +kernel
theorem dX7_knocks_122 : decode cX7_knocks 122 = .ok (.bipush 41, 2) := by decide +kernel
theorem dX7_knocks_124 : decode cX7_knocks 124 = .ok (.iload_n 1, 1) := by decide +kernel
theorem dX7_knocks_125 : decode cX7_knocks 125 = .ok (.iadd, 1) := by decide +kernel
theorem dX7_knocks_126 : decode cX7_knocks 126 = .ok (.dup2, 1) := by decide +kernel
theorem dX7_knocks_127 : decode cX7_knocks 127 = .ok (.iaload, 1) := by decide +kernel
theorem dX7_knocks_128 : decode cX7_knocks 128 = .ok (.iconst 1, 1) := by decide +kernel
theorem dX7_knocks_129 : decode cX7_knocks 129 = .ok (.iadd, 1) := by decide +kernel
theorem dX7_knocks_130 : decode cX7_knocks 130 = .ok (.iastore, 1) := by decide +kernel
theorem dX7_knocks_131 : decode cX7_knocks 131 = .ok (.aload_n 0, 1) := by decide +kernel
theorem dX7_knocks_132 : decode cX7_knocks 132 = .ok (.iconst 0, 1) := by decide +kernel
theorem dX7_knocks_133 : decode cX7_knocks 133 = .ok (.iload_n 1, 1) := by decide +kernel
theorem dX7_knocks_134 : decode cX7_knocks 134 = .ok (.invokevirtual 63, 3) := by decide +kernel
theorem dX7_knocks_137 : decode cX7_knocks 137 = .ok (.return_, 1) := by decide +kernel
theorem dX7_rests_0 : decode cX7_rests 0 = .ok (.aload_n 0, 1) := by decide +kernel
theorem dX7_rests_1 : decode cX7_rests 1 = .ok (.getfield 7, 3) := by decide +kernel
theorem dX7_rests_4 : decode cX7_rests 4 = .ok (.bipush 25, 2) := by decide +kernel
theorem dX7_rests_6 : decode cX7_rests 6 = .ok (.iload_n 1, 1) := by decide +kernel
theorem dX7_rests_7 : decode cX7_rests 7 = .ok (.iadd, 1) := by decide +kernel
theorem dX7_rests_8 : decode cX7_rests 8 = .ok (.dup2, 1) := by decide +kernel
theorem dX7_rests_9 : decode cX7_rests 9 = .ok (.iaload, 1) := by decide +kernel
theorem dX7_rests_10 : decode cX7_rests 10 = .ok (.sipush 256, 3) := by decide +kernel
theorem dX7_rests_13 : decode cX7_rests 13 = .ok (.iload_n 2, 1) := by decide +kernel
theorem dX7_rests_14 : decode cX7_rests 14 = .ok (.imul, 1) := by decide +kernel
theorem dX7_rests_15 : decode cX7_rests 15 = .ok (.aload_n 0, 1) := by decide +kernel
theorem dX7_rests_16 : decode cX7_rests 16 = .ok (.getfield 7, 3) := by decide +kernel
theorem dX7_rests_19 : decode cX7_rests 19 = .ok (.bipush 25, 2) := by decide +kernel
theorem dX7_rests_21 : decode cX7_rests 21 = .ok (.iload_n 1, 1) := by decide +kernel
theorem dX7_rests_22 : decode cX7_rests 22 = .ok (.iadd, 1) := by decide +kernel
theorem dX7_rests_23 : decode cX7_rests 23 = .ok (.iaload, 1) := by decide +kernel
theorem dX7_rests_24 : decode cX7_rests 24 = .ok (.isub, 1) := by decide +kernel
theorem dX7_rests_25 : decode cX7_rests 25 = .ok (.bipush 16, 2) := by decide +kernel
theorem dX7_rests_27 : decode cX7_rests 27 = .ok (.invokestatic 67, 3) := by decide +kernel
theorem dX7_rests_30 : decode cX7_rests 30 = .ok (.iadd, 1) := by decide +kernel
theorem dX7_rests_31 : decode cX7_rests 31 = .ok (.iastore, 1) := by decide +kernel
theorem dX7_rests_32 : decode cX7_rests 32 = .ok (.aload_n 0, 1) := by decide +kernel
theorem dX7_rests_33 : decode cX7_rests 33 = .ok (.getfield 7, 3) := by decide +kernel
theorem dX7_rests_36 : decode cX7_rests 36 = .ok (.bipush 33, 2) := by decide +kernel
theorem dX7_rests_38 : decode cX7_rests 38 = .ok (.iload_n 1, 1) := by decide +kernel
theorem dX7_rests_39 : decode cX7_rests 39 = .ok (.iadd, 1) := by decide +kernel
theorem dX7_rests_40 : decode cX7_rests 40 = .ok (.dup2, 1) := by decide +kernel
theorem dX7_rests_41 : decode cX7_rests 41 = .ok (.iaload, 1) := by decide +kernel
theorem dX7_rests_42 : decode cX7_rests 42 = .ok (.iconst 1, 1) := by decide +kernel
theorem dX7_rests_43 : decode cX7_rests 43 = .ok (.iadd, 1) := by decide +kernel
theorem dX7_rests_44 : decode cX7_rests 44 = .ok (.iastore, 1) := by decide +kernel
theorem dX7_rests_45 : decode cX7_rests 45 = .ok (.aload_n 0, 1) := by decide +kernel
theorem dX7_rests_46 : decode cX7_rests 46 = .ok (.getfield 7, 3) := by decide +kernel
theorem dX7_rests_49 : decode cX7_rests 49 = .ok (.bipush 33, 2) := by decide +kernel
theorem dX7_rests_51 : decode cX7_rests 51 = .ok (.iload_n 1, 1) := by decide +kernel
theorem dX7_rests_52 : decode cX7_rests 52 = .ok (.iadd, 1) := by decide +kernel
theorem dX7_rests_53 : decode cX7_rests 53 = .ok (.iaload, 1) := by decide +kernel
theorem dX7_rests_54 : decode cX7_rests 54 = .ok (.aload_n 0, 1) := by decide +kernel
theorem dX7_rests_55 : decode cX7_rests 55 = .ok (.getfield 7, 3) := by decide +kernel
theorem dX7_rests_58 : decode cX7_rests 58 = .ok (.iconst 2, 1) := by decide +kernel
theorem dX7_rests_59 : decode cX7_rests 59 = .ok (.iaload, 1) := by decide +kernel
theorem dX7_rests_60 : decode cX7_rests 60 = .ok (.if_icmp .lt 42, 3) := by decide +kernel
theorem dX7_rests_63 : decode cX7_rests 63 = .ok (.aload_n 0, 1) := by decide +kernel
theorem dX7_rests_64 : decode cX7_rests 64 = .ok (.getfield 7, 3) := by decide +kernel
theorem dX7_rests_67 : decode cX7_rests 67 = .ok (.bipush 33, 2) := by decide +kernel
theorem dX7_rests_69 : decode cX7_rests 69 = .ok (.iload_n 1, 1) := by decide +kernel
theorem dX7_rests_70 : decode cX7_rests 70 = .ok (.iadd, 1) := by decide +kernel
theorem dX7_rests_71 : decode cX7_rests 71 = .ok (.iconst 0, 1) := by decide +kernel
theorem dX7_rests_72 : decode cX7_rests 72 = .ok (.iastore, 1) := by decide +kernel
theorem dX7_rests_73 : decode cX7_rests 73 = .ok (.aload_n 0, 1) := by decide +kernel
theorem dX7_rests_74 : decode cX7_rests 74 = .ok (.getfield 7, 3) := by decide +kernel
theorem dX7_rests_77 : decode cX7_rests 77 = .ok (.bipush 17, 2) := by decide +kernel
theorem dX7_rests_79 : decode cX7_rests 79 = .ok (.iload_n 1, 1) := by decide +kernel
theorem dX7_rests_80 : decode cX7_rests 80 = .ok (.iadd, 1) := by decide +kernel
theorem dX7_rests_81 : decode cX7_rests 81 = .ok (.dup2, 1) := by decide +kernel
theorem dX7_rests_82 : decode cX7_rests 82 = .ok (.iaload, 1) := by decide +kernel
theorem dX7_rests_83 : decode cX7_rests 83 = .ok (.aload_n 0, 1) := by decide +kernel
theorem dX7_rests_84 : decode cX7_rests 84 = .ok (.getfield 7, 3) := by decide +kernel
theorem dX7_rests_87 : decode cX7_rests 87 = .ok (.bipush 17, 2) := by decide +kernel
theorem dX7_rests_89 : decode cX7_rests 89 = .ok (.iload_n 1, 1) := by decide +kernel
theorem dX7_rests_90 : decode cX7_rests 90 = .ok (.iadd, 1) := by decide +kernel
theorem dX7_rests_91 : decode cX7_rests 91 = .ok (.iaload, 1) := by decide +kernel
theorem dX7_rests_92 : decode cX7_rests 92 = .ok (.ifCond .le 7, 3) := by decide +kernel
theorem dX7_rests_95 : decode cX7_rests 95 = .ok (.iconst 1, 1) := by decide +kernel
theorem dX7_rests_96 : decode cX7_rests 96 = .ok (.goto 4, 3) := by decide +kernel
theorem dX7_rests_99 : decode cX7_rests 99 = .ok (.iconst 0, 1) := by decide +kernel
theorem dX7_rests_100 : decode cX7_rests 100 = .ok (.isub, 1) := by decide +kernel
theorem dX7_rests_101 : decode cX7_rests 101 = .ok (.iastore, 1) := by decide +kernel
theorem dX7_rests_102 : decode cX7_rests 102 = .ok (.return_, 1) := by decide +kernel
theorem dX7_greatest_0 : decode cX7_greatest 0 = .ok (.iconst 0, 1) := by decide +kernel
theorem dX7_greatest_1 : decode cX7_greatest 1 = .ok (.istore_n 1, 1) := by decide +kernel
theorem dX7_greatest_2 : decode cX7_greatest 2 = .ok (.iconst 0, 1) := by decide +kernel
theorem dX7_greatest_3 : decode cX7_greatest 3 = .ok (.istore_n 2, 1) := by decide +kernel
theorem dX7_greatest_4 : decode cX7_greatest 4 = .ok (.iload_n 2, 1) := by decide +kernel
theorem dX7_greatest_5 : decode cX7_greatest 5 = .ok (.aload_n 0, 1) := by decide +kernel
theorem dX7_greatest_6 : decode cX7_greatest 6 = .ok (.getfield 7, 3) := by decide +kernel
theorem dX7_greatest_9 : decode cX7_greatest 9 = .ok (.bipush 8, 2) := by decide +kernel
theorem dX7_greatest_11 : decode cX7_greatest 11 = .ok (.iaload, 1) := by decide +kernel
theorem dX7_greatest_12 : decode cX7_greatest 12 = .ok (.if_icmp .ge 36, 3) := by decide +kernel
theorem dX7_greatest_15 : decode cX7_greatest 15 = .ok (.aload_n 0, 1) := by decide +kernel
theorem dX7_greatest_16 : decode cX7_greatest 16 = .ok (.getfield 7, 3) := by decide +kernel
theorem dX7_greatest_19 : decode cX7_greatest 19 = .ok (.bipush 17, 2) := by decide +kernel
theorem dX7_greatest_21 : decode cX7_greatest 21 = .ok (.iload_n 2, 1) := by decide +kernel
theorem dX7_greatest_22 : decode cX7_greatest 22 = .ok (.iadd, 1) := by decide +kernel
theorem dX7_greatest_23 : decode cX7_greatest 23 = .ok (.iaload, 1) := by decide +kernel
theorem dX7_greatest_24 : decode cX7_greatest 24 = .ok (.iload_n 1, 1) := by decide +kernel
theorem dX7_greatest_25 : decode cX7_greatest 25 = .ok (.if_icmp .le 15, 3) := by decide +kernel
theorem dX7_greatest_28 : decode cX7_greatest 28 = .ok (.aload_n 0, 1) := by decide +kernel
theorem dX7_greatest_29 : decode cX7_greatest 29 = .ok (.getfield 7, 3) := by decide +kernel
theorem dX7_greatest_32 : decode cX7_greatest 32 = .ok (.bipush 17, 2) := by decide +kernel
theorem dX7_greatest_34 : decode cX7_greatest 34 = .ok (.iload_n 2, 1) := by decide +kernel
theorem dX7_greatest_35 : decode cX7_greatest 35 = .ok (.iadd, 1) := by decide +kernel
theorem dX7_greatest_36 : decode cX7_greatest 36 = .ok (.iaload, 1) := by decide +kernel
theorem dX7_greatest_37 : decode cX7_greatest 37 = .ok (.goto 4, 3) := by decide +kernel
theorem dX7_greatest_40 : decode cX7_greatest 40 = .ok (.iload_n 1, 1) := by decide +kernel
theorem dX7_greatest_41 : decode cX7_greatest 41 = .ok (.istore_n 1, 1) := by decide +kernel
theorem dX7_greatest_42 : decode cX7_greatest 42 = .ok (.iinc 2 1, 3) := by decide +kernel
theorem dX7_greatest_45 : decode cX7_greatest 45 = .ok (.goto (-41), 3) := by decide +kernel
theorem dX7_greatest_48 : decode cX7_greatest 48 = .ok (.iload_n 1, 1) := by decide +kernel
theorem dX7_greatest_49 : decode cX7_greatest 49 = .ok (.ireturn, 1) := by decide +kernel
theorem dX7_evens_0 : decode cX7_evens 0 = .ok (.aload_n 0, 1) := by decide +kernel
theorem dX7_evens_1 : decode cX7_evens 1 = .ok (.invokevirtual 70, 3) := by decide +kernel
theorem dX7_evens_4 : decode cX7_evens 4 = .ok (.aload_n 0, 1) := by decide +kernel
theorem dX7_evens_5 : decode cX7_evens 5 = .ok (.getfield 7, 3) := by decide +kernel
theorem dX7_evens_8 : decode cX7_evens 8 = .ok (.iconst 4, 1) := by decide +kernel
theorem dX7_evens_9 : decode cX7_evens 9 = .ok (.iaload, 1) := by decide +kernel
theorem dX7_evens_10 : decode cX7_evens 10 = .ok (.isub, 1) := by decide +kernel
theorem dX7_evens_11 : decode cX7_evens 11 = .ok (.istore_n 1, 1) := by decide +kernel
theorem dX7_evens_12 : decode cX7_evens 12 = .ok (.iconst 0, 1) := by decide +kernel
theorem dX7_evens_13 : decode cX7_evens 13 = .ok (.istore_n 2, 1) := by decide +kernel
theorem dX7_evens_14 : decode cX7_evens 14 = .ok (.iload_n 2, 1) := by decide +kernel
theorem dX7_evens_15 : decode cX7_evens 15 = .ok (.aload_n 0, 1) := by decide +kernel
theorem dX7_evens_16 : decode cX7_evens 16 = .ok (.getfield 7, 3) := by decide +kernel
theorem dX7_evens_19 : decode cX7_evens 19 = .ok (.bipush 8, 2) := by decide +kernel
theorem dX7_evens_21 : decode cX7_evens 21 = .ok (.iaload, 1) := by decide +kernel
theorem dX7_evens_22 : decode cX7_evens 22 = .ok (.if_icmp .ge 44, 3) := by decide +kernel
theorem dX7_evens_25 : decode cX7_evens 25 = .ok (.aload_n 0, 1) := by decide +kernel
theorem dX7_evens_26 : decode cX7_evens 26 = .ok (.getfield 7, 3) := by decide +kernel
theorem dX7_evens_29 : decode cX7_evens 29 = .ok (.bipush 17, 2) := by decide +kernel
theorem dX7_evens_31 : decode cX7_evens 31 = .ok (.iload_n 2, 1) := by decide +kernel
theorem dX7_evens_32 : decode cX7_evens 32 = .ok (.iadd, 1) := by decide +kernel
theorem dX7_evens_33 : decode cX7_evens 33 = .ok (.aload_n 0, 1) := by decide +kernel
theorem dX7_evens_34 : decode cX7_evens 34 = .ok (.getfield 7, 3) := by decide +kernel
theorem dX7_evens_37 : decode cX7_evens 37 = .ok (.bipush 17, 2) := by decide +kernel
theorem dX7_evens_39 : decode cX7_evens 39 = .ok (.iload_n 2, 1) := by decide +kernel
theorem dX7_evens_40 : decode cX7_evens 40 = .ok (.iadd, 1) := by decide +kernel
theorem dX7_evens_41 : decode cX7_evens 41 = .ok (.iaload, 1) := by decide +kernel
theorem dX7_evens_42 : decode cX7_evens 42 = .ok (.iload_n 1, 1) := by decide +kernel
theorem dX7_evens_43 : decode cX7_evens 43 = .ok (.if_icmp .ge 7, 3) := by decide +kernel
theorem dX7_evens_46 : decode cX7_evens 46 = .ok (.iload_n 1, 1) := by decide +kernel
theorem dX7_evens_47 : decode cX7_evens 47 = .ok (.goto 12, 3) := by decide +kernel
theorem dX7_evens_50 : decode cX7_evens 50 = .ok (.aload_n 0, 1) := by decide +kernel
theorem dX7_evens_51 : decode cX7_evens 51 = .ok (.getfield 7, 3) := by decide +kernel
theorem dX7_evens_54 : decode cX7_evens 54 = .ok (.bipush 17, 2) := by decide +kernel
theorem dX7_evens_56 : decode cX7_evens 56 = .ok (.iload_n 2, 1) := by decide +kernel
theorem dX7_evens_57 : decode cX7_evens 57 = .ok (.iadd, 1) := by decide +kernel
theorem dX7_evens_58 : decode cX7_evens 58 = .ok (.iaload, 1) := by decide +kernel
theorem dX7_evens_59 : decode cX7_evens 59 = .ok (.iastore, 1) := by decide +kernel
theorem dX7_evens_60 : decode cX7_evens 60 = .ok (.iinc 2 1, 3) := by decide +kernel
theorem dX7_evens_63 : decode cX7_evens 63 = .ok (.goto (-49), 3) := by decide +kernel
theorem dX7_evens_66 : decode cX7_evens 66 = .ok (.return_, 1) := by decide +kernel
theorem dX7_learns_0 : decode cX7_learns 0 = .ok (.iconst 0, 1) := by decide +kernel
theorem dX7_learns_1 : decode cX7_learns 1 = .ok (.istore_n 2, 1) := by decide +kernel
theorem dX7_learns_2 : decode cX7_learns 2 = .ok (.iconst 0, 1) := by decide +kernel
theorem dX7_learns_3 : decode cX7_learns 3 = .ok (.istore_n 3, 1) := by decide +kernel
theorem dX7_learns_4 : decode cX7_learns 4 = .ok (.iload_n 3, 1) := by decide +kernel
theorem dX7_learns_5 : decode cX7_learns 5 = .ok (.aload_n 0, 1) := by decide +kernel
theorem dX7_learns_6 : decode cX7_learns 6 = .ok (.getfield 7, 3) := by decide +kernel
theorem dX7_learns_9 : decode cX7_learns 9 = .ok (.bipush 8, 2) := by decide +kernel
theorem dX7_learns_11 : decode cX7_learns 11 = .ok (.iaload, 1) := by decide +kernel
theorem dX7_learns_12 : decode cX7_learns 12 = .ok (.if_icmp .ge 21, 3) := by decide +kernel
theorem dX7_learns_15 : decode cX7_learns 15 = .ok (.iload_n 2, 1) := by decide +kernel
theorem dX7_learns_16 : decode cX7_learns 16 = .ok (.aload_n 0, 1) := by decide +kernel
theorem dX7_learns_17 : decode cX7_learns 17 = .ok (.getfield 7, 3) := by decide +kernel
theorem dX7_learns_20 : decode cX7_learns 20 = .ok (.bipush 17, 2) := by decide +kernel
theorem dX7_learns_22 : decode cX7_learns 22 = .ok (.iload_n 3, 1) := by decide +kernel
theorem dX7_learns_23 : decode cX7_learns 23 = .ok (.iadd, 1) := by decide +kernel
theorem dX7_learns_24 : decode cX7_learns 24 = .ok (.iaload, 1) := by decide +kernel
theorem dX7_learns_25 : decode cX7_learns 25 = .ok (.iadd, 1) := by decide +kernel
theorem dX7_learns_26 : decode cX7_learns 26 = .ok (.istore_n 2, 1) := by decide +kernel
theorem dX7_learns_27 : decode cX7_learns 27 = .ok (.iinc 3 1, 3) := by decide +kernel
theorem dX7_learns_30 : decode cX7_learns 30 = .ok (.goto (-26), 3) := by decide +kernel
theorem dX7_learns_33 : decode cX7_learns 33 = .ok (.iload_n 2, 1) := by decide +kernel
theorem dX7_learns_34 : decode cX7_learns 34 = .ok (.aload_n 0, 1) := by decide +kernel
theorem dX7_learns_35 : decode cX7_learns 35 = .ok (.getfield 7, 3) := by decide +kernel
theorem dX7_learns_38 : decode cX7_learns 38 = .ok (.bipush 8, 2) := by decide +kernel
theorem dX7_learns_40 : decode cX7_learns 40 = .ok (.iaload, 1) := by decide +kernel
theorem dX7_learns_41 : decode cX7_learns 41 = .ok (.idiv, 1) := by decide +kernel
theorem dX7_learns_42 : decode cX7_learns 42 = .ok (.istore_n 3, 1) := by decide +kernel
theorem dX7_learns_43 : decode cX7_learns 43 = .ok (.bipush 49, 2) := by decide +kernel
theorem dX7_learns_45 : decode cX7_learns 45 = .ok (.iload_n 1, 1) := by decide +kernel
theorem dX7_learns_46 : decode cX7_learns 46 = .ok (.iadd, 1) := by decide +kernel
theorem dX7_learns_47 : decode cX7_learns 47 = .ok (.istore 4, 2) := by decide +kernel
theorem dX7_learns_49 : decode cX7_learns 49 = .ok (.iload_n 3, 1) := by decide +kernel
theorem dX7_learns_50 : decode cX7_learns 50 = .ok (.bipush 20, 2) := by decide +kernel
theorem dX7_learns_52 : decode cX7_learns 52 = .ok (.if_icmp .le 87, 3) := by decide +kernel
theorem dX7_learns_55 : decode cX7_learns 55 = .ok (.aload_n 0, 1) := by decide +kernel
theorem dX7_learns_56 : decode cX7_learns 56 = .ok (.getfield 7, 3) := by decide +kernel
theorem dX7_learns_59 : decode cX7_learns 59 = .ok (.iload 4, 2) := by decide +kernel
theorem dX7_learns_61 : decode cX7_learns 61 = .ok (.iaload, 1) := by decide +kernel
theorem dX7_learns_62 : decode cX7_learns 62 = .ok (.bipush 100, 2) := by decide +kernel
theorem dX7_learns_64 : decode cX7_learns 64 = .ok (.if_icmp .ge 75, 3) := by decide +kernel
theorem dX7_learns_67 : decode cX7_learns 67 = .ok (.aload_n 0, 1) := by decide +kernel
theorem dX7_learns_68 : decode cX7_learns 68 = .ok (.getfield 7, 3) := by decide +kernel
theorem dX7_learns_71 : decode cX7_learns 71 = .ok (.iload 4, 2) := by decide +kernel
theorem dX7_learns_73 : decode cX7_learns 73 = .ok (.dup2, 1) := by decide +kernel
theorem dX7_learns_74 : decode cX7_learns 74 = .ok (.iaload, 1) := by decide +kernel
theorem dX7_learns_75 : decode cX7_learns 75 = .ok (.iconst 1, 1) := by decide +kernel
theorem dX7_learns_76 : decode cX7_learns 76 = .ok (.iadd, 1) := by decide +kernel
theorem dX7_learns_77 : decode cX7_learns 77 = .ok (.iastore, 1) := by decide +kernel
theorem dX7_learns_78 : decode cX7_learns 78 = .ok (.iconst 0, 1) := by decide +kernel
theorem dX7_learns_79 : decode cX7_learns 79 = .ok (.istore 5, 2) := by decide +kernel
theorem dX7_learns_81 : decode cX7_learns 81 = .ok (.iload 5, 2) := by decide +kernel
theorem dX7_learns_83 : decode cX7_learns 83 = .ok (.aload_n 0, 1) := by decide +kernel
theorem dX7_learns_84 : decode cX7_learns 84 = .ok (.getfield 7, 3) := by decide +kernel
theorem dX7_learns_87 : decode cX7_learns 87 = .ok (.bipush 8, 2) := by decide +kernel
theorem dX7_learns_89 : decode cX7_learns 89 = .ok (.iaload, 1) := by decide +kernel
theorem dX7_learns_90 : decode cX7_learns 90 = .ok (.if_icmp .ge 40, 3) := by decide +kernel
theorem dX7_learns_93 : decode cX7_learns 93 = .ok (.aload_n 0, 1) := by decide +kernel
theorem dX7_learns_94 : decode cX7_learns 94 = .ok (.getfield 7, 3) := by decide +kernel
theorem dX7_learns_97 : decode cX7_learns 97 = .ok (.bipush 17, 2) := by decide +kernel
theorem dX7_learns_99 : decode cX7_learns 99 = .ok (.iload 5, 2) := by decide +kernel
theorem dX7_learns_101 : decode cX7_learns 101 = .ok (.iadd, 1) := by decide +kernel
theorem dX7_learns_102 : decode cX7_learns 102 = .ok (.dup2, 1) := by decide +kernel
theorem dX7_learns_103 : decode cX7_learns 103 = .ok (.iaload, 1) := by decide +kernel
theorem dX7_learns_104 : decode cX7_learns 104 = .ok (.aload_n 0, 1) := by decide +kernel
theorem dX7_learns_105 : decode cX7_learns 105 = .ok (.getfield 7, 3) := by decide +kernel
theorem dX7_learns_108 : decode cX7_learns 108 = .ok (.bipush 17, 2) := by decide +kernel
theorem dX7_learns_110 : decode cX7_learns 110 = .ok (.iload 5, 2) := by decide +kernel
theorem dX7_learns_112 : decode cX7_learns 112 = .ok (.iadd, 1) := by decide +kernel
theorem dX7_learns_113 : decode cX7_learns 113 = .ok (.iaload, 1) := by decide +kernel
theorem dX7_learns_114 : decode cX7_learns 114 = .ok (.ifCond .le 7, 3) := by decide +kernel
theorem dX7_learns_117 : decode cX7_learns 117 = .ok (.iconst 1, 1) := by decide +kernel
theorem dX7_learns_118 : decode cX7_learns 118 = .ok (.goto 4, 3) := by decide +kernel
theorem dX7_learns_121 : decode cX7_learns 121 = .ok (.iconst 0, 1) := by decide +kernel
theorem dX7_learns_122 : decode cX7_learns 122 = .ok (.isub, 1) := by decide +kernel
theorem dX7_learns_123 : decode cX7_learns 123 = .ok (.iastore, 1) := by decide +kernel
theorem dX7_learns_124 : decode cX7_learns 124 = .ok (.iinc 5 1, 3) := by decide +kernel
theorem dX7_learns_127 : decode cX7_learns 127 = .ok (.goto (-46), 3) := by decide +kernel
theorem dX7_learns_130 : decode cX7_learns 130 = .ok (.aload_n 0, 1) := by decide +kernel
theorem dX7_learns_131 : decode cX7_learns 131 = .ok (.iconst 3, 1) := by decide +kernel
theorem dX7_learns_132 : decode cX7_learns 132 = .ok (.iload_n 1, 1) := by decide +kernel
theorem dX7_learns_133 : decode cX7_learns 133 = .ok (.invokevirtual 63, 3) := by decide +kernel
theorem dX7_learns_136 : decode cX7_learns 136 = .ok (.goto 35, 3) := by decide +kernel
theorem dX7_learns_139 : decode cX7_learns 139 = .ok (.iload_n 3, 1) := by decide +kernel
theorem dX7_learns_140 : decode cX7_learns 140 = .ok (.iconst 5, 1) := by decide +kernel
theorem dX7_learns_141 : decode cX7_learns 141 = .ok (.if_icmp .ge 30, 3) := by decide +kernel
theorem dX7_learns_144 : decode cX7_learns 144 = .ok (.aload_n 0, 1) := by decide +kernel
theorem dX7_learns_145 : decode cX7_learns 145 = .ok (.getfield 7, 3) := by decide +kernel
theorem dX7_learns_148 : decode cX7_learns 148 = .ok (.iload 4, 2) := by decide +kernel
theorem dX7_learns_150 : decode cX7_learns 150 = .ok (.iaload, 1) := by decide +kernel
theorem dX7_learns_151 : decode cX7_learns 151 = .ok (.ifCond .le 20, 3) := by decide +kernel
theorem dX7_learns_154 : decode cX7_learns 154 = .ok (.aload_n 0, 1) := by decide +kernel
theorem dX7_learns_155 : decode cX7_learns 155 = .ok (.getfield 7, 3) := by decide +kernel
theorem dX7_learns_158 : decode cX7_learns 158 = .ok (.iload 4, 2) := by decide +kernel
theorem dX7_learns_160 : decode cX7_learns 160 = .ok (.dup2, 1) := by decide +kernel
theorem dX7_learns_161 : decode cX7_learns 161 = .ok (.iaload, 1) := by decide +kernel
theorem dX7_learns_162 : decode cX7_learns 162 = .ok (.iconst 1, 1) := by decide +kernel
theorem dX7_learns_163 : decode cX7_learns 163 = .ok (.isub, 1) := by decide +kernel
theorem dX7_learns_164 : decode cX7_learns 164 = .ok (.iastore, 1) := by decide +kernel
theorem dX7_learns_165 : decode cX7_learns 165 = .ok (.aload_n 0, 1) := by decide +kernel
theorem dX7_learns_166 : decode cX7_learns 166 = .ok (.iconst 4, 1) := by decide +kernel
theorem dX7_learns_167 : decode cX7_learns 167 = .ok (.iload_n 1, 1) := by decide +kernel
theorem dX7_learns_168 : decode cX7_learns 168 = .ok (.invokevirtual 63, 3) := by decide +kernel
theorem dX7_learns_171 : decode cX7_learns 171 = .ok (.return_, 1) := by decide +kernel
theorem dX7_treats_0 : decode cX7_treats 0 = .ok (.aload_n 0, 1) := by decide +kernel
theorem dX7_treats_1 : decode cX7_treats 1 = .ok (.getfield 7, 3) := by decide +kernel
theorem dX7_treats_4 : decode cX7_treats 4 = .ok (.bipush 9, 2) := by decide +kernel
theorem dX7_treats_6 : decode cX7_treats 6 = .ok (.iaload, 1) := by decide +kernel
theorem dX7_treats_7 : decode cX7_treats 7 = .ok (.aload_n 0, 1) := by decide +kernel
theorem dX7_treats_8 : decode cX7_treats 8 = .ok (.getfield 7, 3) := by decide +kernel
theorem dX7_treats_11 : decode cX7_treats 11 = .ok (.bipush 8, 2) := by decide +kernel
theorem dX7_treats_13 : decode cX7_treats 13 = .ok (.iaload, 1) := by decide +kernel
theorem dX7_treats_14 : decode cX7_treats 14 = .ok (.irem, 1) := by decide +kernel
theorem dX7_treats_15 : decode cX7_treats 15 = .ok (.istore 4, 2) := by decide +kernel
theorem dX7_treats_17 : decode cX7_treats 17 = .ok (.iload_n 1, 1) := by decide +kernel
theorem dX7_treats_18 : decode cX7_treats 18 = .ok (.iload_n 2, 1) := by decide +kernel
theorem dX7_treats_19 : decode cX7_treats 19 = .ok (.invokestatic 57, 3) := by decide +kernel
theorem dX7_treats_22 : decode cX7_treats 22 = .ok (.istore 5, 2) := by decide +kernel
theorem dX7_treats_24 : decode cX7_treats 24 = .ok (.iconst 2, 1) := by decide +kernel
theorem dX7_treats_25 : decode cX7_treats 25 = .ok (.istore 6, 2) := by decide +kernel
theorem dX7_treats_27 : decode cX7_treats 27 = .ok (.aload_n 0, 1) := by decide +kernel
theorem dX7_treats_28 : decode cX7_treats 28 = .ok (.iload_n 3, 1) := by decide +kernel
theorem dX7_treats_29 : decode cX7_treats 29 = .ok (.invokevirtual 74, 3) := by decide +kernel
theorem dX7_treats_32 : decode cX7_treats 32 = .ok (.aload_n 0, 1) := by decide +kernel
theorem dX7_treats_33 : decode cX7_treats 33 = .ok (.getfield 7, 3) := by decide +kernel
theorem dX7_treats_36 : decode cX7_treats 36 = .ok (.bipush 15, 2) := by decide +kernel
theorem dX7_treats_38 : decode cX7_treats 38 = .ok (.iload 5, 2) := by decide +kernel
theorem dX7_treats_40 : decode cX7_treats 40 = .ok (.aload_n 0, 1) := by decide +kernel
theorem dX7_treats_41 : decode cX7_treats 41 = .ok (.getfield 7, 3) := by decide +kernel
theorem dX7_treats_44 : decode cX7_treats 44 = .ok (.bipush 16, 2) := by decide +kernel
theorem dX7_treats_46 : decode cX7_treats 46 = .ok (.iaload, 1) := by decide +kernel
theorem dX7_treats_47 : decode cX7_treats 47 = .ok (.if_icmp .ne 15, 3) := by decide +kernel
theorem dX7_treats_50 : decode cX7_treats 50 = .ok (.aload_n 0, 1) := by decide +kernel
theorem dX7_treats_51 : decode cX7_treats 51 = .ok (.getfield 7, 3) := by decide +kernel
theorem dX7_treats_54 : decode cX7_treats 54 = .ok (.bipush 15, 2) := by decide +kernel
theorem dX7_treats_56 : decode cX7_treats 56 = .ok (.iaload, 1) := by decide +kernel
theorem dX7_treats_57 : decode cX7_treats 57 = .ok (.iconst 1, 1) := by decide +kernel
theorem dX7_treats_58 : decode cX7_treats 58 = .ok (.iadd, 1) := by decide +kernel
theorem dX7_treats_59 : decode cX7_treats 59 = .ok (.goto 4, 3) := by decide +kernel
theorem dX7_treats_62 : decode cX7_treats 62 = .ok (.iconst 0, 1) := by decide +kernel
theorem dX7_treats_63 : decode cX7_treats 63 = .ok (.iastore, 1) := by decide +kernel
theorem dX7_treats_64 : decode cX7_treats 64 = .ok (.aload_n 0, 1) := by decide +kernel
theorem dX7_treats_65 : decode cX7_treats 65 = .ok (.getfield 7, 3) := by decide +kernel
theorem dX7_treats_68 : decode cX7_treats 68 = .ok (.bipush 16, 2) := by decide +kernel
theorem dX7_treats_70 : decode cX7_treats 70 = .ok (.iload 5, 2) := by decide +kernel
theorem dX7_treats_72 : decode cX7_treats 72 = .ok (.iastore, 1) := by decide +kernel
theorem dX7_treats_73 : decode cX7_treats 73 = .ok (.aload_n 0, 1) := by decide +kernel
theorem dX7_treats_74 : decode cX7_treats 74 = .ok (.getfield 7, 3) := by decide +kernel
theorem dX7_treats_77 : decode cX7_treats 77 = .ok (.bipush 12, 2) := by decide +kernel
theorem dX7_treats_79 : decode cX7_treats 79 = .ok (.iaload, 1) := by decide +kernel
theorem dX7_treats_80 : decode cX7_treats 80 = .ok (.ifCond .ne 95, 3) := by decide +kernel
theorem dX7_treats_83 : decode cX7_treats 83 = .ok (.aload_n 0, 1) := by decide +kernel
theorem dX7_treats_84 : decode cX7_treats 84 = .ok (.iload 4, 2) := by decide +kernel
theorem dX7_treats_86 : decode cX7_treats 86 = .ok (.invokevirtual 77, 3) := by decide +kernel
theorem dX7_treats_89 : decode cX7_treats 89 = .ok (.istore 7, 2) := by decide +kernel
theorem dX7_treats_91 : decode cX7_treats 91 = .ok (.iload_n 3, 1) := by decide +kernel
theorem dX7_treats_92 : decode cX7_treats 92 = .ok (.iload 7, 2) := by decide +kernel
theorem dX7_treats_94 : decode cX7_treats 94 = .ok (.if_icmp .le 7, 3) := by decide +kernel
theorem dX7_treats_97 : decode cX7_treats 97 = .ok (.iconst 1, 1) := by decide +kernel
theorem dX7_treats_98 : decode cX7_treats 98 = .ok (.goto 4, 3) := by decide +kernel
theorem dX7_treats_101 : decode cX7_treats 101 = .ok (.iconst 0, 1) := by decide +kernel
theorem dX7_treats_102 : decode cX7_treats 102 = .ok (.istore 6, 2) := by decide +kernel
theorem dX7_treats_104 : decode cX7_treats 104 = .ok (.iload 6, 2) := by decide +kernel
theorem dX7_treats_106 : decode cX7_treats 106 = .ok (.iconst 1, 1) := by decide +kernel
theorem dX7_treats_107 : decode cX7_treats 107 = .ok (.if_icmp .ne 17, 3) := by decide +kernel
theorem dX7_treats_110 : decode cX7_treats 110 = .ok (.aload_n 0, 1) := by decide +kernel
theorem dX7_treats_111 : decode cX7_treats 111 = .ok (.iload 4, 2) := by decide +kernel
theorem dX7_treats_113 : decode cX7_treats 113 = .ok (.iload 5, 2) := by decide +kernel
theorem dX7_treats_115 : decode cX7_treats 115 = .ok (.iload_n 3, 1) := by decide +kernel
theorem dX7_treats_116 : decode cX7_treats 116 = .ok (.iload 7, 2) := by decide +kernel
theorem dX7_treats_118 : decode cX7_treats 118 = .ok (.invokevirtual 81, 3) := by decide +kernel
theorem dX7_treats_121 : decode cX7_treats 121 = .ok (.goto 10, 3) := by decide +kernel
theorem dX7_treats_124 : decode cX7_treats 124 = .ok (.aload_n 0, 1) := by decide +kernel
theorem dX7_treats_125 : decode cX7_treats 125 = .ok (.iload 4, 2) := by decide +kernel
theorem dX7_treats_127 : decode cX7_treats 127 = .ok (.iload_n 3, 1) := by decide +kernel
theorem dX7_treats_128 : decode cX7_treats 128 = .ok (.invokevirtual 85, 3) := by decide +kernel
theorem dX7_treats_131 : decode cX7_treats 131 = .ok (.aload_n 0, 1) := by decide +kernel
theorem dX7_treats_132 : decode cX7_treats 132 = .ok (.invokevirtual 88, 3) := by decide +kernel
theorem dX7_treats_135 : decode cX7_treats 135 = .ok (.aload_n 0, 1) := by decide +kernel
theorem dX7_treats_136 : decode cX7_treats 136 = .ok (.getfield 7, 3) := by decide +kernel
theorem dX7_treats_139 : decode cX7_treats 139 = .ok (.bipush 15, 2) := by decide +kernel
theorem dX7_treats_141 : decode cX7_treats 141 = .ok (.iaload, 1) := by decide +kernel
theorem dX7_treats_142 : decode cX7_treats 142 = .ok (.aload_n 0, 1) := by decide +kernel
theorem dX7_treats_143 : decode cX7_treats 143 = .ok (.getfield 7, 3) := by decide +kernel
theorem dX7_treats_146 : decode cX7_treats 146 = .ok (.iconst 5, 1) := by decide +kernel
theorem dX7_treats_147 : decode cX7_treats 147 = .ok (.iaload, 1) := by decide +kernel
theorem dX7_treats_148 : decode cX7_treats 148 = .ok (.if_icmp .lt 27, 3) := by decide +kernel
theorem dX7_treats_151 : decode cX7_treats 151 = .ok (.aload_n 0, 1) := by decide +kernel
theorem dX7_treats_152 : decode cX7_treats 152 = .ok (.getfield 7, 3) := by decide +kernel
theorem dX7_treats_155 : decode cX7_treats 155 = .ok (.bipush 15, 2) := by decide +kernel
theorem dX7_treats_157 : decode cX7_treats 157 = .ok (.iaload, 1) := by decide +kernel
theorem dX7_treats_158 : decode cX7_treats 158 = .ok (.aload_n 0, 1) := by decide +kernel
theorem dX7_treats_159 : decode cX7_treats 159 = .ok (.getfield 7, 3) := by decide +kernel
theorem dX7_treats_162 : decode cX7_treats 162 = .ok (.bipush 8, 2) := by decide +kernel
theorem dX7_treats_164 : decode cX7_treats 164 = .ok (.iaload, 1) := by decide +kernel
theorem dX7_treats_165 : decode cX7_treats 165 = .ok (.irem, 1) := by decide +kernel
theorem dX7_treats_166 : decode cX7_treats 166 = .ok (.ifCond .ne 9, 3) := by decide +kernel
theorem dX7_treats_169 : decode cX7_treats 169 = .ok (.aload_n 0, 1) := by decide +kernel
theorem dX7_treats_170 : decode cX7_treats 170 = .ok (.iload 5, 2) := by decide +kernel
theorem dX7_treats_172 : decode cX7_treats 172 = .ok (.invokevirtual 91, 3) := by decide +kernel
theorem dX7_treats_175 : decode cX7_treats 175 = .ok (.aload_n 0, 1) := by decide +kernel
theorem dX7_treats_176 : decode cX7_treats 176 = .ok (.getfield 7, 3) := by decide +kernel
theorem dX7_treats_179 : decode cX7_treats 179 = .ok (.bipush 9, 2) := by decide +kernel
theorem dX7_treats_181 : decode cX7_treats 181 = .ok (.dup2, 1) := by decide +kernel
theorem dX7_treats_182 : decode cX7_treats 182 = .ok (.iaload, 1) := by decide +kernel
theorem dX7_treats_183 : decode cX7_treats 183 = .ok (.iconst 1, 1) := by decide +kernel
theorem dX7_treats_184 : decode cX7_treats 184 = .ok (.iadd, 1) := by decide +kernel
theorem dX7_treats_185 : decode cX7_treats 185 = .ok (.iastore, 1) := by decide +kernel
theorem dX7_treats_186 : decode cX7_treats 186 = .ok (.iload 6, 2) := by decide +kernel
theorem dX7_treats_188 : decode cX7_treats 188 = .ok (.ireturn, 1) := by decide +kernel
theorem dX7_knockLimit_0 : decode cX7_knockLimit 0 = .ok (.sipush 150, 3) := by decide +kernel
theorem dX7_knockLimit_3 : decode cX7_knockLimit 3 = .ok (.iload_n 0, 1) := by decide +kernel
theorem dX7_knockLimit_4 : decode cX7_knockLimit 4 = .ok (.bipush 60, 2) := by decide +kernel
theorem dX7_knockLimit_6 : decode cX7_knockLimit 6 = .ok (.idiv, 1) := by decide +kernel
theorem dX7_knockLimit_7 : decode cX7_knockLimit 7 = .ok (.iadd, 1) := by decide +kernel
theorem dX7_knockLimit_8 : decode cX7_knockLimit 8 = .ok (.iload_n 1, 1) := by decide +kernel
theorem dX7_knockLimit_9 : decode cX7_knockLimit 9 = .ok (.iconst 3, 1) := by decide +kernel
theorem dX7_knockLimit_10 : decode cX7_knockLimit 10 = .ok (.imul, 1) := by decide +kernel
theorem dX7_knockLimit_11 : decode cX7_knockLimit 11 = .ok (.iconst 2, 1) := by decide +kernel
theorem dX7_knockLimit_12 : decode cX7_knockLimit 12 = .ok (.idiv, 1) := by decide +kernel
theorem dX7_knockLimit_13 : decode cX7_knockLimit 13 = .ok (.isub, 1) := by decide +kernel
theorem dX7_knockLimit_14 : decode cX7_knockLimit 14 = .ok (.iload_n 2, 1) := by decide +kernel
theorem dX7_knockLimit_15 : decode cX7_knockLimit 15 = .ok (.bipush 95, 2) := by decide +kernel
theorem dX7_knockLimit_17 : decode cX7_knockLimit 17 = .ok (.isub, 1) := by decide +kernel
theorem dX7_knockLimit_18 : decode cX7_knockLimit 18 = .ok (.bipush 8, 2) := by decide +kernel
theorem dX7_knockLimit_20 : decode cX7_knockLimit 20 = .ok (.imul, 1) := by decide +kernel
theorem dX7_knockLimit_21 : decode cX7_knockLimit 21 = .ok (.iadd, 1) := by decide +kernel
theorem dX7_knockLimit_22 : decode cX7_knockLimit 22 = .ok (.ireturn, 1) := by decide +kernel
theorem dX7_fires_0 : decode cX7_fires 0 = .ok (.aload_n 0, 1) := by decide +kernel
theorem dX7_fires_1 : decode cX7_fires 1 = .ok (.getfield 7, 3) := by decide +kernel
theorem dX7_fires_4 : decode cX7_fires 4 = .ok (.bipush 10, 2) := by decide +kernel
theorem dX7_fires_6 : decode cX7_fires 6 = .ok (.ldc2_w 94, 3) := by decide +kernel
theorem dX7_fires_9 : decode cX7_fires 9 = .ok (.aload_n 0, 1) := by decide +kernel
theorem dX7_fires_10 : decode cX7_fires 10 = .ok (.getfield 7, 3) := by decide +kernel
theorem dX7_fires_13 : decode cX7_fires 13 = .ok (.bipush 10, 2) := by decide +kernel
theorem dX7_fires_15 : decode cX7_fires 15 = .ok (.iaload, 1) := by decide +kernel
theorem dX7_fires_16 : decode cX7_fires 16 = .ok (.i2l, 1) := by decide +kernel
theorem dX7_fires_17 : decode cX7_fires 17 = .ok (.lmul, 1) := by decide +kernel
theorem dX7_fires_18 : decode cX7_fires 18 = .ok (.ldc2_w 96, 3) := by decide +kernel
theorem dX7_fires_21 : decode cX7_fires 21 = .ok (.ladd, 1) := by decide +kernel
theorem dX7_fires_22 : decode cX7_fires 22 = .ok (.ldc2_w 98, 3) := by decide +kernel
theorem dX7_fires_25 : decode cX7_fires 25 = .ok (.lrem, 1) := by decide +kernel
theorem dX7_fires_26 : decode cX7_fires 26 = .ok (.l2i, 1) := by decide +kernel
theorem dX7_fires_27 : decode cX7_fires 27 = .ok (.iastore, 1) := by decide +kernel
theorem dX7_fires_28 : decode cX7_fires 28 = .ok (.aload_n 0, 1) := by decide +kernel
theorem dX7_fires_29 : decode cX7_fires 29 = .ok (.aload_n 0, 1) := by decide +kernel
theorem dX7_fires_30 : decode cX7_fires 30 = .ok (.getfield 7, 3) := by decide +kernel
theorem dX7_fires_33 : decode cX7_fires 33 = .ok (.bipush 9, 2) := by decide +kernel
theorem dX7_fires_35 : decode cX7_fires 35 = .ok (.iaload, 1) := by decide +kernel
theorem dX7_fires_36 : decode cX7_fires 36 = .ok (.aload_n 0, 1) := by decide +kernel
theorem dX7_fires_37 : decode cX7_fires 37 = .ok (.getfield 7, 3) := by decide +kernel
theorem dX7_fires_40 : decode cX7_fires 40 = .ok (.bipush 8, 2) := by decide +kernel
theorem dX7_fires_42 : decode cX7_fires 42 = .ok (.iaload, 1) := by decide +kernel
theorem dX7_fires_43 : decode cX7_fires 43 = .ok (.irem, 1) := by decide +kernel
theorem dX7_fires_44 : decode cX7_fires 44 = .ok (.iload_n 1, 1) := by decide +kernel
theorem dX7_fires_45 : decode cX7_fires 45 = .ok (.iload_n 2, 1) := by decide +kernel
theorem dX7_fires_46 : decode cX7_fires 46 = .ok (.invokevirtual 100, 3) := by decide +kernel
theorem dX7_fires_49 : decode cX7_fires 49 = .ok (.iload_n 1, 1) := by decide +kernel
theorem dX7_fires_50 : decode cX7_fires 50 = .ok (.iload_n 2, 1) := by decide +kernel
theorem dX7_fires_51 : decode cX7_fires 51 = .ok (.iload_n 3, 1) := by decide +kernel
theorem dX7_fires_52 : decode cX7_fires 52 = .ok (.invokestatic 104, 3) := by decide +kernel
theorem dX7_fires_55 : decode cX7_fires 55 = .ok (.isub, 1) := by decide +kernel
theorem dX7_fires_56 : decode cX7_fires 56 = .ok (.istore 4, 2) := by decide +kernel
theorem dX7_fires_58 : decode cX7_fires 58 = .ok (.iload_n 1, 1) := by decide +kernel
theorem dX7_fires_59 : decode cX7_fires 59 = .ok (.bipush 20, 2) := by decide +kernel
theorem dX7_fires_61 : decode cX7_fires 61 = .ok (.idiv, 1) := by decide +kernel
theorem dX7_fires_62 : decode cX7_fires 62 = .ok (.iload_n 2, 1) := by decide +kernel
theorem dX7_fires_63 : decode cX7_fires 63 = .ok (.iadd, 1) := by decide +kernel
theorem dX7_fires_64 : decode cX7_fires 64 = .ok (.aload_n 0, 1) := by decide +kernel
theorem dX7_fires_65 : decode cX7_fires 65 = .ok (.getfield 7, 3) := by decide +kernel
theorem dX7_fires_68 : decode cX7_fires 68 = .ok (.bipush 10, 2) := by decide +kernel
theorem dX7_fires_70 : decode cX7_fires 70 = .ok (.iaload, 1) := by decide +kernel
theorem dX7_fires_71 : decode cX7_fires 71 = .ok (.ldc 107, 2) := by decide +kernel
theorem dX7_fires_73 : decode cX7_fires 73 = .ok (.idiv, 1) := by decide +kernel
theorem dX7_fires_74 : decode cX7_fires 74 = .ok (.bipush 40, 2) := by decide +kernel
theorem dX7_fires_76 : decode cX7_fires 76 = .ok (.irem, 1) := by decide +kernel
theorem dX7_fires_77 : decode cX7_fires 77 = .ok (.iadd, 1) := by decide +kernel
theorem dX7_fires_78 : decode cX7_fires 78 = .ok (.bipush 12, 2) := by decide +kernel
theorem dX7_fires_80 : decode cX7_fires 80 = .ok (.iload 4, 2) := by decide +kernel
theorem dX7_fires_82 : decode cX7_fires 82 = .ok (.ifCond .le 8, 3) := by decide +kernel
theorem dX7_fires_85 : decode cX7_fires 85 = .ok (.iload 4, 2) := by decide +kernel
theorem dX7_fires_87 : decode cX7_fires 87 = .ok (.goto 4, 3) := by decide +kernel
theorem dX7_fires_90 : decode cX7_fires 90 = .ok (.iconst 0, 1) := by decide +kernel
theorem dX7_fires_91 : decode cX7_fires 91 = .ok (.imul, 1) := by decide +kernel
theorem dX7_fires_92 : decode cX7_fires 92 = .ok (.iadd, 1) := by decide +kernel
theorem dX7_fires_93 : decode cX7_fires 93 = .ok (.sipush 20000, 3) := by decide +kernel
theorem dX7_fires_96 : decode cX7_fires 96 = .ok (.invokestatic 53, 3) := by decide +kernel
theorem dX7_fires_99 : decode cX7_fires 99 = .ok (.istore 5, 2) := by decide +kernel
theorem dX7_fires_101 : decode cX7_fires 101 = .ok (.aload_n 0, 1) := by decide +kernel
theorem dX7_fires_102 : decode cX7_fires 102 = .ok (.iload_n 1, 1) := by decide +kernel
theorem dX7_fires_103 : decode cX7_fires 103 = .ok (.iload_n 2, 1) := by decide +kernel
theorem dX7_fires_104 : decode cX7_fires 104 = .ok (.aload_n 0, 1) := by decide +kernel
theorem dX7_fires_105 : decode cX7_fires 105 = .ok (.getfield 7, 3) := by decide +kernel
theorem dX7_fires_108 : decode cX7_fires 108 = .ok (.bipush 11, 2) := by decide +kernel
theorem dX7_fires_110 : decode cX7_fires 110 = .ok (.iaload, 1) := by decide +kernel
theorem dX7_fires_111 : decode cX7_fires 111 = .ok (.iconst 1, 1) := by decide +kernel
theorem dX7_fires_112 : decode cX7_fires 112 = .ok (.if_icmp .ne 7, 3) := by decide +kernel
theorem dX7_fires_115 : decode cX7_fires 115 = .ok (.iconst 0, 1) := by decide +kernel
theorem dX7_fires_116 : decode cX7_fires 116 = .ok (.goto 5, 3) := by decide +kernel
theorem dX7_fires_119 : decode cX7_fires 119 = .ok (.iload 5, 2) := by decide +kernel
theorem dX7_fires_121 : decode cX7_fires 121 = .ok (.invokevirtual 108, 3) := by decide +kernel
theorem dX7_fires_124 : decode cX7_fires 124 = .ok (.ireturn, 1) := by decide +kernel
theorem dX7_fire_0 : decode cX7_fire 0 = .ok (.aload_n 0, 1) := by decide +kernel
theorem dX7_fire_1 : decode cX7_fire 1 = .ok (.iload_n 1, 1) := by decide +kernel
theorem dX7_fire_2 : decode cX7_fire 2 = .ok (.iload_n 2, 1) := by decide +kernel
theorem dX7_fire_3 : decode cX7_fire 3 = .ok (.invokestatic 111, 3) := by decide +kernel
theorem dX7_fire_6 : decode cX7_fire 6 = .ok (.ifCond .eq 18, 3) := by decide +kernel
theorem dX7_fire_9 : decode cX7_fire 9 = .ok (.iload_n 3, 1) := by decide +kernel
theorem dX7_fire_10 : decode cX7_fire 10 = .ok (.iconst 0, 1) := by decide +kernel
theorem dX7_fire_11 : decode cX7_fire 11 = .ok (.sipush 20000, 3) := by decide +kernel
theorem dX7_fire_14 : decode cX7_fire 14 = .ok (.invokestatic 38, 3) := by decide +kernel
theorem dX7_fire_17 : decode cX7_fire 17 = .ok (.ifCond .eq 7, 3) := by decide +kernel
theorem dX7_fire_20 : decode cX7_fire 20 = .ok (.iconst 0, 1) := by decide +kernel
theorem dX7_fire_21 : decode cX7_fire 21 = .ok (.goto 4, 3) := by decide +kernel
theorem dX7_fire_24 : decode cX7_fire 24 = .ok (.iconst 1, 1) := by decide +kernel
theorem dX7_fire_25 : decode cX7_fire 25 = .ok (.invokevirtual 34, 3) := by decide +kernel
theorem dX7_fire_28 : decode cX7_fire 28 = .ok (.ifCond .eq 5, 3) := by decide +kernel
theorem dX7_fire_31 : decode cX7_fire 31 = .ok (.iconst 0, 1) := by decide +kernel
theorem dX7_fire_32 : decode cX7_fire 32 = .ok (.ireturn, 1) := by decide +kernel
theorem dX7_fire_33 : decode cX7_fire 33 = .ok (.aload_n 0, 1) := by decide +kernel
theorem dX7_fire_34 : decode cX7_fire 34 = .ok (.invokevirtual 42, 3) := by decide +kernel
theorem dX7_fire_37 : decode cX7_fire 37 = .ok (.aload_n 0, 1) := by decide +kernel
theorem dX7_fire_38 : decode cX7_fire 38 = .ok (.iload_n 1, 1) := by decide +kernel
theorem dX7_fire_39 : decode cX7_fire 39 = .ok (.iload_n 2, 1) := by decide +kernel
theorem dX7_fire_40 : decode cX7_fire 40 = .ok (.iload_n 3, 1) := by decide +kernel
theorem dX7_fire_41 : decode cX7_fire 41 = .ok (.invokevirtual 108, 3) := by decide +kernel
theorem dX7_fire_44 : decode cX7_fire 44 = .ok (.ireturn, 1) := by decide +kernel
theorem dX7_isOctane_0 : decode cX7_isOctane 0 = .ok (.iload_n 0, 1) := by decide +kernel
theorem dX7_isOctane_1 : decode cX7_isOctane 1 = .ok (.bipush 80, 2) := by decide +kernel
theorem dX7_isOctane_3 : decode cX7_isOctane 3 = .ok (.bipush 110, 2) := by decide +kernel
theorem dX7_isOctane_5 : decode cX7_isOctane 5 = .ok (.invokestatic 38, 3) := by decide +kernel
theorem dX7_isOctane_8 : decode cX7_isOctane 8 = .ok (.ireturn, 1) := by decide +kernel
theorem dX7_drive_0 : decode cX7_drive 0 = .ok (.aload_n 0, 1) := by decide +kernel
theorem dX7_drive_1 : decode cX7_drive 1 = .ok (.iload_n 1, 1) := by decide +kernel
theorem dX7_drive_2 : decode cX7_drive 2 = .ok (.iload_n 2, 1) := by decide +kernel
theorem dX7_drive_3 : decode cX7_drive 3 = .ok (.invokestatic 111, 3) := by decide +kernel
theorem dX7_drive_6 : decode cX7_drive 6 = .ok (.ifCond .eq 26, 3) := by decide +kernel
theorem dX7_drive_9 : decode cX7_drive 9 = .ok (.iload_n 3, 1) := by decide +kernel
theorem dX7_drive_10 : decode cX7_drive 10 = .ok (.invokestatic 114, 3) := by decide +kernel
theorem dX7_drive_13 : decode cX7_drive 13 = .ok (.ifCond .eq 19, 3) := by decide +kernel
theorem dX7_drive_16 : decode cX7_drive 16 = .ok (.iload 4, 2) := by decide +kernel
theorem dX7_drive_18 : decode cX7_drive 18 = .ok (.iconst 0, 1) := by decide +kernel
theorem dX7_drive_19 : decode cX7_drive 19 = .ok (.sipush 1000, 3) := by decide +kernel
theorem dX7_drive_22 : decode cX7_drive 22 = .ok (.invokestatic 38, 3) := by decide +kernel
theorem dX7_drive_25 : decode cX7_drive 25 = .ok (.ifCond .eq 7, 3) := by decide +kernel
theorem dX7_drive_28 : decode cX7_drive 28 = .ok (.iconst 0, 1) := by decide +kernel
theorem dX7_drive_29 : decode cX7_drive 29 = .ok (.goto 4, 3) := by decide +kernel
theorem dX7_drive_32 : decode cX7_drive 32 = .ok (.iconst 1, 1) := by decide +kernel
theorem dX7_drive_33 : decode cX7_drive 33 = .ok (.invokevirtual 34, 3) := by decide +kernel
theorem dX7_drive_36 : decode cX7_drive 36 = .ok (.ifCond .eq 5, 3) := by decide +kernel
theorem dX7_drive_39 : decode cX7_drive 39 = .ok (.iconst 0, 1) := by decide +kernel
theorem dX7_drive_40 : decode cX7_drive 40 = .ok (.ireturn, 1) := by decide +kernel
theorem dX7_drive_41 : decode cX7_drive 41 = .ok (.aload_n 0, 1) := by decide +kernel
theorem dX7_drive_42 : decode cX7_drive 42 = .ok (.invokevirtual 42, 3) := by decide +kernel
theorem dX7_drive_45 : decode cX7_drive 45 = .ok (.iconst 0, 1) := by decide +kernel
theorem dX7_drive_46 : decode cX7_drive 46 = .ok (.istore 5, 2) := by decide +kernel
theorem dX7_drive_48 : decode cX7_drive 48 = .ok (.iconst 0, 1) := by decide +kernel
theorem dX7_drive_49 : decode cX7_drive 49 = .ok (.istore 6, 2) := by decide +kernel
theorem dX7_drive_51 : decode cX7_drive 51 = .ok (.iload 6, 2) := by decide +kernel
theorem dX7_drive_53 : decode cX7_drive 53 = .ok (.iload 4, 2) := by decide +kernel
theorem dX7_drive_55 : decode cX7_drive 55 = .ok (.if_icmp .ge 30, 3) := by decide +kernel
theorem dX7_drive_58 : decode cX7_drive 58 = .ok (.iload 5, 2) := by decide +kernel
theorem dX7_drive_60 : decode cX7_drive 60 = .ok (.aload_n 0, 1) := by decide +kernel
theorem dX7_drive_61 : decode cX7_drive 61 = .ok (.iload_n 1, 1) := by decide +kernel
theorem dX7_drive_62 : decode cX7_drive 62 = .ok (.iload_n 2, 1) := by decide +kernel
theorem dX7_drive_63 : decode cX7_drive 63 = .ok (.iload_n 3, 1) := by decide +kernel
theorem dX7_drive_64 : decode cX7_drive 64 = .ok (.invokevirtual 117, 3) := by decide +kernel
theorem dX7_drive_67 : decode cX7_drive 67 = .ok (.iconst 1, 1) := by decide +kernel
theorem dX7_drive_68 : decode cX7_drive 68 = .ok (.if_icmp .ne 7, 3) := by decide +kernel
theorem dX7_drive_71 : decode cX7_drive 71 = .ok (.iconst 1, 1) := by decide +kernel
theorem dX7_drive_72 : decode cX7_drive 72 = .ok (.goto 4, 3) := by decide +kernel
theorem dX7_drive_75 : decode cX7_drive 75 = .ok (.iconst 0, 1) := by decide +kernel
theorem dX7_drive_76 : decode cX7_drive 76 = .ok (.iadd, 1) := by decide +kernel
theorem dX7_drive_77 : decode cX7_drive 77 = .ok (.istore 5, 2) := by decide +kernel
theorem dX7_drive_79 : decode cX7_drive 79 = .ok (.iinc 6 1, 3) := by decide +kernel
theorem dX7_drive_82 : decode cX7_drive 82 = .ok (.goto (-31), 3) := by decide +kernel
theorem dX7_drive_85 : decode cX7_drive 85 = .ok (.iload 5, 2) := by decide +kernel
theorem dX7_drive_87 : decode cX7_drive 87 = .ok (.ireturn, 1) := by decide +kernel
theorem dX7_firings_0 : decode cX7_firings 0 = .ok (.aload_n 0, 1) := by decide +kernel
theorem dX7_firings_1 : decode cX7_firings 1 = .ok (.iconst 0, 1) := by decide +kernel
theorem dX7_firings_2 : decode cX7_firings 2 = .ok (.putfield 27, 3) := by decide +kernel
theorem dX7_firings_5 : decode cX7_firings 5 = .ok (.aload_n 0, 1) := by decide +kernel
theorem dX7_firings_6 : decode cX7_firings 6 = .ok (.getfield 7, 3) := by decide +kernel
theorem dX7_firings_9 : decode cX7_firings 9 = .ok (.bipush 9, 2) := by decide +kernel
theorem dX7_firings_11 : decode cX7_firings 11 = .ok (.iaload, 1) := by decide +kernel
theorem dX7_firings_12 : decode cX7_firings 12 = .ok (.ireturn, 1) := by decide +kernel
theorem dX7_next_0 : decode cX7_next 0 = .ok (.aload_n 0, 1) := by decide +kernel
theorem dX7_next_1 : decode cX7_next 1 = .ok (.iconst 0, 1) := by decide +kernel
theorem dX7_next_2 : decode cX7_next 2 = .ok (.putfield 27, 3) := by decide +kernel
theorem dX7_next_5 : decode cX7_next 5 = .ok (.aload_n 0, 1) := by decide +kernel
theorem dX7_next_6 : decode cX7_next 6 = .ok (.getfield 7, 3) := by decide +kernel
theorem dX7_next_9 : decode cX7_next 9 = .ok (.bipush 9, 2) := by decide +kernel
theorem dX7_next_11 : decode cX7_next 11 = .ok (.iaload, 1) := by decide +kernel
theorem dX7_next_12 : decode cX7_next 12 = .ok (.aload_n 0, 1) := by decide +kernel
theorem dX7_next_13 : decode cX7_next 13 = .ok (.getfield 7, 3) := by decide +kernel
theorem dX7_next_16 : decode cX7_next 16 = .ok (.bipush 8, 2) := by decide +kernel
theorem dX7_next_18 : decode cX7_next 18 = .ok (.iaload, 1) := by decide +kernel
theorem dX7_next_19 : decode cX7_next 19 = .ok (.irem, 1) := by decide +kernel
theorem dX7_next_20 : decode cX7_next 20 = .ok (.ireturn, 1) := by decide +kernel
theorem dX7_isCylinder_0 : decode cX7_isCylinder 0 = .ok (.iload_n 1, 1) := by decide +kernel
theorem dX7_isCylinder_1 : decode cX7_isCylinder 1 = .ok (.iconst 0, 1) := by decide +kernel
theorem dX7_isCylinder_2 : decode cX7_isCylinder 2 = .ok (.aload_n 0, 1) := by decide +kernel
theorem dX7_isCylinder_3 : decode cX7_isCylinder 3 = .ok (.getfield 7, 3) := by decide +kernel
theorem dX7_isCylinder_6 : decode cX7_isCylinder 6 = .ok (.bipush 8, 2) := by decide +kernel
theorem dX7_isCylinder_8 : decode cX7_isCylinder 8 = .ok (.iaload, 1) := by decide +kernel
theorem dX7_isCylinder_9 : decode cX7_isCylinder 9 = .ok (.iconst 1, 1) := by decide +kernel
theorem dX7_isCylinder_10 : decode cX7_isCylinder 10 = .ok (.isub, 1) := by decide +kernel
theorem dX7_isCylinder_11 : decode cX7_isCylinder 11 = .ok (.invokestatic 38, 3) := by decide +kernel
theorem dX7_isCylinder_14 : decode cX7_isCylinder 14 = .ok (.ireturn, 1) := by decide +kernel
theorem dX7_tellCylinder_0 : decode cX7_tellCylinder 0 = .ok (.iload_n 2, 1) := by decide +kernel
theorem dX7_tellCylinder_1 : decode cX7_tellCylinder 1 = .ok (.tableswitch 67 0 3 #[31, 41, 51, 61], 31) := by decide +kernel
theorem dX7_tellCylinder_32 : decode cX7_tellCylinder 32 = .ok (.aload_n 0, 1) := by decide +kernel
theorem dX7_tellCylinder_33 : decode cX7_tellCylinder 33 = .ok (.getfield 7, 3) := by decide +kernel
theorem dX7_tellCylinder_36 : decode cX7_tellCylinder 36 = .ok (.bipush 17, 2) := by decide +kernel
theorem dX7_tellCylinder_38 : decode cX7_tellCylinder 38 = .ok (.iload_n 1, 1) := by decide +kernel
theorem dX7_tellCylinder_39 : decode cX7_tellCylinder 39 = .ok (.iadd, 1) := by decide +kernel
theorem dX7_tellCylinder_40 : decode cX7_tellCylinder 40 = .ok (.iaload, 1) := by decide +kernel
theorem dX7_tellCylinder_41 : decode cX7_tellCylinder 41 = .ok (.ireturn, 1) := by decide +kernel
theorem dX7_tellCylinder_42 : decode cX7_tellCylinder 42 = .ok (.aload_n 0, 1) := by decide +kernel
theorem dX7_tellCylinder_43 : decode cX7_tellCylinder 43 = .ok (.getfield 7, 3) := by decide +kernel
theorem dX7_tellCylinder_46 : decode cX7_tellCylinder 46 = .ok (.bipush 25, 2) := by decide +kernel
theorem dX7_tellCylinder_48 : decode cX7_tellCylinder 48 = .ok (.iload_n 1, 1) := by decide +kernel
theorem dX7_tellCylinder_49 : decode cX7_tellCylinder 49 = .ok (.iadd, 1) := by decide +kernel
theorem dX7_tellCylinder_50 : decode cX7_tellCylinder 50 = .ok (.iaload, 1) := by decide +kernel
theorem dX7_tellCylinder_51 : decode cX7_tellCylinder 51 = .ok (.ireturn, 1) := by decide +kernel
theorem dX7_tellCylinder_52 : decode cX7_tellCylinder 52 = .ok (.aload_n 0, 1) := by decide +kernel
theorem dX7_tellCylinder_53 : decode cX7_tellCylinder 53 = .ok (.getfield 7, 3) := by decide +kernel
theorem dX7_tellCylinder_56 : decode cX7_tellCylinder 56 = .ok (.bipush 33, 2) := by decide +kernel
theorem dX7_tellCylinder_58 : decode cX7_tellCylinder 58 = .ok (.iload_n 1, 1) := by decide +kernel
theorem dX7_tellCylinder_59 : decode cX7_tellCylinder 59 = .ok (.iadd, 1) := by decide +kernel
theorem dX7_tellCylinder_60 : decode cX7_tellCylinder 60 = .ok (.iaload, 1) := by decide +kernel
theorem dX7_tellCylinder_61 : decode cX7_tellCylinder 61 = .ok (.ireturn, 1) := by decide +kernel
theorem dX7_tellCylinder_62 : decode cX7_tellCylinder 62 = .ok (.aload_n 0, 1) := by decide +kernel
theorem dX7_tellCylinder_63 : decode cX7_tellCylinder 63 = .ok (.iload_n 1, 1) := by decide +kernel
theorem dX7_tellCylinder_64 : decode cX7_tellCylinder 64 = .ok (.invokevirtual 77, 3) := by decide +kernel
theorem dX7_tellCylinder_67 : decode cX7_tellCylinder 67 = .ok (.ireturn, 1) := by decide +kernel
theorem dX7_tellCylinder_68 : decode cX7_tellCylinder 68 = .ok (.aload_n 0, 1) := by decide +kernel
theorem dX7_tellCylinder_69 : decode cX7_tellCylinder 69 = .ok (.getfield 7, 3) := by decide +kernel
theorem dX7_tellCylinder_72 : decode cX7_tellCylinder 72 = .ok (.bipush 41, 2) := by decide +kernel
theorem dX7_tellCylinder_74 : decode cX7_tellCylinder 74 = .ok (.iload_n 1, 1) := by decide +kernel
theorem dX7_tellCylinder_75 : decode cX7_tellCylinder 75 = .ok (.iadd, 1) := by decide +kernel
theorem dX7_tellCylinder_76 : decode cX7_tellCylinder 76 = .ok (.iaload, 1) := by decide +kernel
theorem dX7_tellCylinder_77 : decode cX7_tellCylinder 77 = .ok (.ireturn, 1) := by decide +kernel
theorem dX7_cylinder_0 : decode cX7_cylinder 0 = .ok (.aload_n 0, 1) := by decide +kernel
theorem dX7_cylinder_1 : decode cX7_cylinder 1 = .ok (.aload_n 0, 1) := by decide +kernel
theorem dX7_cylinder_2 : decode cX7_cylinder 2 = .ok (.iload_n 1, 1) := by decide +kernel
theorem dX7_cylinder_3 : decode cX7_cylinder 3 = .ok (.invokevirtual 120, 3) := by decide +kernel
theorem dX7_cylinder_6 : decode cX7_cylinder 6 = .ok (.ifCond .ne 7, 3) := by decide +kernel
theorem dX7_cylinder_9 : decode cX7_cylinder 9 = .ok (.iconst 1, 1) := by decide +kernel
theorem dX7_cylinder_10 : decode cX7_cylinder 10 = .ok (.goto 17, 3) := by decide +kernel
theorem dX7_cylinder_13 : decode cX7_cylinder 13 = .ok (.iload_n 2, 1) := by decide +kernel
theorem dX7_cylinder_14 : decode cX7_cylinder 14 = .ok (.iconst 0, 1) := by decide +kernel
theorem dX7_cylinder_15 : decode cX7_cylinder 15 = .ok (.iconst 4, 1) := by decide +kernel
theorem dX7_cylinder_16 : decode cX7_cylinder 16 = .ok (.invokestatic 38, 3) := by decide +kernel
theorem dX7_cylinder_19 : decode cX7_cylinder 19 = .ok (.ifCond .eq 7, 3) := by decide +kernel
theorem dX7_cylinder_22 : decode cX7_cylinder 22 = .ok (.iconst 0, 1) := by decide +kernel
theorem dX7_cylinder_23 : decode cX7_cylinder 23 = .ok (.goto 4, 3) := by decide +kernel
theorem dX7_cylinder_26 : decode cX7_cylinder 26 = .ok (.iconst 2, 1) := by decide +kernel
theorem dX7_cylinder_27 : decode cX7_cylinder 27 = .ok (.invokevirtual 34, 3) := by decide +kernel
theorem dX7_cylinder_30 : decode cX7_cylinder 30 = .ok (.ifCond .eq 7, 3) := by decide +kernel
theorem dX7_cylinder_33 : decode cX7_cylinder 33 = .ok (.iconst 0, 1) := by decide +kernel
theorem dX7_cylinder_34 : decode cX7_cylinder 34 = .ok (.goto 9, 3) := by decide +kernel
theorem dX7_cylinder_37 : decode cX7_cylinder 37 = .ok (.aload_n 0, 1) := by decide +kernel
theorem dX7_cylinder_38 : decode cX7_cylinder 38 = .ok (.iload_n 1, 1) := by decide +kernel
theorem dX7_cylinder_39 : decode cX7_cylinder 39 = .ok (.iload_n 2, 1) := by decide +kernel
theorem dX7_cylinder_40 : decode cX7_cylinder 40 = .ok (.invokevirtual 123, 3) := by decide +kernel
theorem dX7_cylinder_43 : decode cX7_cylinder 43 = .ok (.ireturn, 1) := by decide +kernel
theorem dX7_learned_0 : decode cX7_learned 0 = .ok (.aload_n 0, 1) := by decide +kernel
theorem dX7_learned_1 : decode cX7_learned 1 = .ok (.iload_n 1, 1) := by decide +kernel
theorem dX7_learned_2 : decode cX7_learned 2 = .ok (.iload_n 2, 1) := by decide +kernel
theorem dX7_learned_3 : decode cX7_learned 3 = .ok (.invokestatic 49, 3) := by decide +kernel
theorem dX7_learned_6 : decode cX7_learned 6 = .ok (.ifCond .eq 7, 3) := by decide +kernel
theorem dX7_learned_9 : decode cX7_learned 9 = .ok (.iconst 0, 1) := by decide +kernel
theorem dX7_learned_10 : decode cX7_learned 10 = .ok (.goto 4, 3) := by decide +kernel
theorem dX7_learned_13 : decode cX7_learned 13 = .ok (.iconst 1, 1) := by decide +kernel
theorem dX7_learned_14 : decode cX7_learned 14 = .ok (.invokevirtual 34, 3) := by decide +kernel
theorem dX7_learned_17 : decode cX7_learned 17 = .ok (.ifCond .eq 7, 3) := by decide +kernel
theorem dX7_learned_20 : decode cX7_learned 20 = .ok (.iconst 0, 1) := by decide +kernel
theorem dX7_learned_21 : decode cX7_learned 21 = .ok (.goto 16, 3) := by decide +kernel
theorem dX7_learned_24 : decode cX7_learned 24 = .ok (.aload_n 0, 1) := by decide +kernel
theorem dX7_learned_25 : decode cX7_learned 25 = .ok (.getfield 7, 3) := by decide +kernel
theorem dX7_learned_28 : decode cX7_learned 28 = .ok (.bipush 49, 2) := by decide +kernel
theorem dX7_learned_30 : decode cX7_learned 30 = .ok (.iconst 4, 1) := by decide +kernel
theorem dX7_learned_31 : decode cX7_learned 31 = .ok (.iload_n 1, 1) := by decide +kernel
theorem dX7_learned_32 : decode cX7_learned 32 = .ok (.imul, 1) := by decide +kernel
theorem dX7_learned_33 : decode cX7_learned 33 = .ok (.iadd, 1) := by decide +kernel
theorem dX7_learned_34 : decode cX7_learned 34 = .ok (.iload_n 2, 1) := by decide +kernel
theorem dX7_learned_35 : decode cX7_learned 35 = .ok (.iadd, 1) := by decide +kernel
theorem dX7_learned_36 : decode cX7_learned 36 = .ok (.iaload, 1) := by decide +kernel
theorem dX7_learned_37 : decode cX7_learned 37 = .ok (.ireturn, 1) := by decide +kernel
theorem dX7_angle_0 : decode cX7_angle 0 = .ok (.aload_n 0, 1) := by decide +kernel
theorem dX7_angle_1 : decode cX7_angle 1 = .ok (.aload_n 0, 1) := by decide +kernel
theorem dX7_angle_2 : decode cX7_angle 2 = .ok (.iload_n 1, 1) := by decide +kernel
theorem dX7_angle_3 : decode cX7_angle 3 = .ok (.invokevirtual 120, 3) := by decide +kernel
theorem dX7_angle_6 : decode cX7_angle 6 = .ok (.ifCond .ne 7, 3) := by decide +kernel
theorem dX7_angle_9 : decode cX7_angle 9 = .ok (.iconst 1, 1) := by decide +kernel
theorem dX7_angle_10 : decode cX7_angle 10 = .ok (.goto 16, 3) := by decide +kernel
theorem dX7_angle_13 : decode cX7_angle 13 = .ok (.iload_n 2, 1) := by decide +kernel
theorem dX7_angle_14 : decode cX7_angle 14 = .ok (.iload_n 3, 1) := by decide +kernel
theorem dX7_angle_15 : decode cX7_angle 15 = .ok (.invokestatic 111, 3) := by decide +kernel
theorem dX7_angle_18 : decode cX7_angle 18 = .ok (.ifCond .eq 7, 3) := by decide +kernel
theorem dX7_angle_21 : decode cX7_angle 21 = .ok (.iconst 0, 1) := by decide +kernel
theorem dX7_angle_22 : decode cX7_angle 22 = .ok (.goto 4, 3) := by decide +kernel
theorem dX7_angle_25 : decode cX7_angle 25 = .ok (.iconst 2, 1) := by decide +kernel
theorem dX7_angle_26 : decode cX7_angle 26 = .ok (.invokevirtual 34, 3) := by decide +kernel
theorem dX7_angle_29 : decode cX7_angle 29 = .ok (.ifCond .eq 5, 3) := by decide +kernel
theorem dX7_angle_32 : decode cX7_angle 32 = .ok (.iconst 0, 1) := by decide +kernel
theorem dX7_angle_33 : decode cX7_angle 33 = .ok (.ireturn, 1) := by decide +kernel
theorem dX7_angle_34 : decode cX7_angle 34 = .ok (.iload 4, 2) := by decide +kernel
theorem dX7_angle_36 : decode cX7_angle 36 = .ok (.ifCond .eq 13, 3) := by decide +kernel
theorem dX7_angle_39 : decode cX7_angle 39 = .ok (.aload_n 0, 1) := by decide +kernel
theorem dX7_angle_40 : decode cX7_angle 40 = .ok (.iload_n 1, 1) := by decide +kernel
theorem dX7_angle_41 : decode cX7_angle 41 = .ok (.iload_n 2, 1) := by decide +kernel
theorem dX7_angle_42 : decode cX7_angle 42 = .ok (.iload_n 3, 1) := by decide +kernel
theorem dX7_angle_43 : decode cX7_angle 43 = .ok (.invokevirtual 100, 3) := by decide +kernel
theorem dX7_angle_46 : decode cX7_angle 46 = .ok (.goto 13, 3) := by decide +kernel
theorem dX7_angle_49 : decode cX7_angle 49 = .ok (.aload_n 0, 1) := by decide +kernel
theorem dX7_angle_50 : decode cX7_angle 50 = .ok (.iload_n 1, 1) := by decide +kernel
theorem dX7_angle_51 : decode cX7_angle 51 = .ok (.iload_n 2, 1) := by decide +kernel
theorem dX7_angle_52 : decode cX7_angle 52 = .ok (.iload_n 3, 1) := by decide +kernel
theorem dX7_angle_53 : decode cX7_angle 53 = .ok (.invokestatic 57, 3) := by decide +kernel
theorem dX7_angle_56 : decode cX7_angle 56 = .ok (.invokevirtual 60, 3) := by decide +kernel
theorem dX7_angle_59 : decode cX7_angle 59 = .ok (.ireturn, 1) := by decide +kernel
theorem dX7_status_0 : decode cX7_status 0 = .ok (.aload_n 0, 1) := by decide +kernel
theorem dX7_status_1 : decode cX7_status 1 = .ok (.iload_n 1, 1) := by decide +kernel
theorem dX7_status_2 : decode cX7_status 2 = .ok (.iconst 0, 1) := by decide +kernel
theorem dX7_status_3 : decode cX7_status 3 = .ok (.iconst 4, 1) := by decide +kernel
theorem dX7_status_4 : decode cX7_status 4 = .ok (.invokestatic 38, 3) := by decide +kernel
theorem dX7_status_7 : decode cX7_status 7 = .ok (.ifCond .eq 7, 3) := by decide +kernel
theorem dX7_status_10 : decode cX7_status 10 = .ok (.iconst 0, 1) := by decide +kernel
theorem dX7_status_11 : decode cX7_status 11 = .ok (.goto 4, 3) := by decide +kernel
theorem dX7_status_14 : decode cX7_status 14 = .ok (.iconst 1, 1) := by decide +kernel
theorem dX7_status_15 : decode cX7_status 15 = .ok (.invokevirtual 34, 3) := by decide +kernel
theorem dX7_status_18 : decode cX7_status 18 = .ok (.ifCond .eq 7, 3) := by decide +kernel
theorem dX7_status_21 : decode cX7_status 21 = .ok (.iconst 0, 1) := by decide +kernel
theorem dX7_status_22 : decode cX7_status 22 = .ok (.goto 12, 3) := by decide +kernel
theorem dX7_status_25 : decode cX7_status 25 = .ok (.aload_n 0, 1) := by decide +kernel
theorem dX7_status_26 : decode cX7_status 26 = .ok (.getfield 7, 3) := by decide +kernel
theorem dX7_status_29 : decode cX7_status 29 = .ok (.bipush 12, 2) := by decide +kernel
theorem dX7_status_31 : decode cX7_status 31 = .ok (.iload_n 1, 1) := by decide +kernel
theorem dX7_status_32 : decode cX7_status 32 = .ok (.iadd, 1) := by decide +kernel
theorem dX7_status_33 : decode cX7_status 33 = .ok (.iaload, 1) := by decide +kernel
theorem dX7_status_34 : decode cX7_status 34 = .ok (.ireturn, 1) := by decide +kernel
theorem dX7_unfairness_0 : decode cX7_unfairness 0 = .ok (.aload_n 0, 1) := by decide +kernel
theorem dX7_unfairness_1 : decode cX7_unfairness 1 = .ok (.iconst 0, 1) := by decide +kernel
theorem dX7_unfairness_2 : decode cX7_unfairness 2 = .ok (.putfield 27, 3) := by decide +kernel
theorem dX7_unfairness_5 : decode cX7_unfairness 5 = .ok (.aload_n 0, 1) := by decide +kernel
theorem dX7_unfairness_6 : decode cX7_unfairness 6 = .ok (.invokevirtual 70, 3) := by decide +kernel
theorem dX7_unfairness_9 : decode cX7_unfairness 9 = .ok (.istore_n 1, 1) := by decide +kernel
theorem dX7_unfairness_10 : decode cX7_unfairness 10 = .ok (.iconst 0, 1) := by decide +kernel
theorem dX7_unfairness_11 : decode cX7_unfairness 11 = .ok (.istore_n 2, 1) := by decide +kernel
theorem dX7_unfairness_12 : decode cX7_unfairness 12 = .ok (.iload_n 2, 1) := by decide +kernel
theorem dX7_unfairness_13 : decode cX7_unfairness 13 = .ok (.aload_n 0, 1) := by decide +kernel
theorem dX7_unfairness_14 : decode cX7_unfairness 14 = .ok (.getfield 7, 3) := by decide +kernel
theorem dX7_unfairness_17 : decode cX7_unfairness 17 = .ok (.bipush 8, 2) := by decide +kernel
theorem dX7_unfairness_19 : decode cX7_unfairness 19 = .ok (.iaload, 1) := by decide +kernel
theorem dX7_unfairness_20 : decode cX7_unfairness 20 = .ok (.if_icmp .ge 23, 3) := by decide +kernel
theorem dX7_unfairness_23 : decode cX7_unfairness 23 = .ok (.iload_n 1, 1) := by decide +kernel
theorem dX7_unfairness_24 : decode cX7_unfairness 24 = .ok (.aload_n 0, 1) := by decide +kernel
theorem dX7_unfairness_25 : decode cX7_unfairness 25 = .ok (.getfield 7, 3) := by decide +kernel
theorem dX7_unfairness_28 : decode cX7_unfairness 28 = .ok (.bipush 17, 2) := by decide +kernel
theorem dX7_unfairness_30 : decode cX7_unfairness 30 = .ok (.iload_n 2, 1) := by decide +kernel
theorem dX7_unfairness_31 : decode cX7_unfairness 31 = .ok (.iadd, 1) := by decide +kernel
theorem dX7_unfairness_32 : decode cX7_unfairness 32 = .ok (.iaload, 1) := by decide +kernel
theorem dX7_unfairness_33 : decode cX7_unfairness 33 = .ok (.invokestatic 53, 3) := by decide +kernel
theorem dX7_unfairness_36 : decode cX7_unfairness 36 = .ok (.istore_n 1, 1) := by decide +kernel
theorem dX7_unfairness_37 : decode cX7_unfairness 37 = .ok (.iinc 2 1, 3) := by decide +kernel
theorem dX7_unfairness_40 : decode cX7_unfairness 40 = .ok (.goto (-28), 3) := by decide +kernel
theorem dX7_unfairness_43 : decode cX7_unfairness 43 = .ok (.aload_n 0, 1) := by decide +kernel
theorem dX7_unfairness_44 : decode cX7_unfairness 44 = .ok (.invokevirtual 70, 3) := by decide +kernel
theorem dX7_unfairness_47 : decode cX7_unfairness 47 = .ok (.iload_n 1, 1) := by decide +kernel
theorem dX7_unfairness_48 : decode cX7_unfairness 48 = .ok (.isub, 1) := by decide +kernel
theorem dX7_unfairness_49 : decode cX7_unfairness 49 = .ok (.ireturn, 1) := by decide +kernel
theorem dX7_rateBits_0 : decode cX7_rateBits 0 = .ok (.aload_n 0, 1) := by decide +kernel
theorem dX7_rateBits_1 : decode cX7_rateBits 1 = .ok (.iconst 0, 1) := by decide +kernel
theorem dX7_rateBits_2 : decode cX7_rateBits 2 = .ok (.putfield 27, 3) := by decide +kernel
theorem dX7_rateBits_5 : decode cX7_rateBits 5 = .ok (.iconst 0, 1) := by decide +kernel
theorem dX7_rateBits_6 : decode cX7_rateBits 6 = .ok (.istore_n 1, 1) := by decide +kernel
theorem dX7_rateBits_7 : decode cX7_rateBits 7 = .ok (.iconst 0, 1) := by decide +kernel
theorem dX7_rateBits_8 : decode cX7_rateBits 8 = .ok (.istore_n 2, 1) := by decide +kernel
theorem dX7_rateBits_9 : decode cX7_rateBits 9 = .ok (.iload_n 2, 1) := by decide +kernel
theorem dX7_rateBits_10 : decode cX7_rateBits 10 = .ok (.aload_n 0, 1) := by decide +kernel
theorem dX7_rateBits_11 : decode cX7_rateBits 11 = .ok (.getfield 7, 3) := by decide +kernel
theorem dX7_rateBits_14 : decode cX7_rateBits 14 = .ok (.bipush 8, 2) := by decide +kernel
theorem dX7_rateBits_16 : decode cX7_rateBits 16 = .ok (.iaload, 1) := by decide +kernel
theorem dX7_rateBits_17 : decode cX7_rateBits 17 = .ok (.if_icmp .ge 21, 3) := by decide +kernel
theorem dX7_rateBits_20 : decode cX7_rateBits 20 = .ok (.iload_n 1, 1) := by decide +kernel
theorem dX7_rateBits_21 : decode cX7_rateBits 21 = .ok (.aload_n 0, 1) := by decide +kernel
theorem dX7_rateBits_22 : decode cX7_rateBits 22 = .ok (.getfield 7, 3) := by decide +kernel
theorem dX7_rateBits_25 : decode cX7_rateBits 25 = .ok (.bipush 41, 2) := by decide +kernel
theorem dX7_rateBits_27 : decode cX7_rateBits 27 = .ok (.iload_n 2, 1) := by decide +kernel
theorem dX7_rateBits_28 : decode cX7_rateBits 28 = .ok (.iadd, 1) := by decide +kernel
theorem dX7_rateBits_29 : decode cX7_rateBits 29 = .ok (.iaload, 1) := by decide +kernel
theorem dX7_rateBits_30 : decode cX7_rateBits 30 = .ok (.iadd, 1) := by decide +kernel
theorem dX7_rateBits_31 : decode cX7_rateBits 31 = .ok (.istore_n 1, 1) := by decide +kernel
theorem dX7_rateBits_32 : decode cX7_rateBits 32 = .ok (.iinc 2 1, 3) := by decide +kernel
theorem dX7_rateBits_35 : decode cX7_rateBits 35 = .ok (.goto (-26), 3) := by decide +kernel
theorem dX7_rateBits_38 : decode cX7_rateBits 38 = .ok (.aload_n 0, 1) := by decide +kernel
theorem dX7_rateBits_39 : decode cX7_rateBits 39 = .ok (.getfield 7, 3) := by decide +kernel
theorem dX7_rateBits_42 : decode cX7_rateBits 42 = .ok (.bipush 9, 2) := by decide +kernel
theorem dX7_rateBits_44 : decode cX7_rateBits 44 = .ok (.iaload, 1) := by decide +kernel
theorem dX7_rateBits_45 : decode cX7_rateBits 45 = .ok (.ifCond .ne 7, 3) := by decide +kernel
theorem dX7_rateBits_48 : decode cX7_rateBits 48 = .ok (.iconst 0, 1) := by decide +kernel
theorem dX7_rateBits_49 : decode cX7_rateBits 49 = .ok (.goto 17, 3) := by decide +kernel
theorem dX7_rateBits_52 : decode cX7_rateBits 52 = .ok (.iload_n 1, 1) := by decide +kernel
theorem dX7_rateBits_53 : decode cX7_rateBits 53 = .ok (.i2f, 1) := by decide +kernel
theorem dX7_rateBits_54 : decode cX7_rateBits 54 = .ok (.aload_n 0, 1) := by decide +kernel
theorem dX7_rateBits_55 : decode cX7_rateBits 55 = .ok (.getfield 7, 3) := by decide +kernel
theorem dX7_rateBits_58 : decode cX7_rateBits 58 = .ok (.bipush 9, 2) := by decide +kernel
theorem dX7_rateBits_60 : decode cX7_rateBits 60 = .ok (.iaload, 1) := by decide +kernel
theorem dX7_rateBits_61 : decode cX7_rateBits 61 = .ok (.i2f, 1) := by decide +kernel
theorem dX7_rateBits_62 : decode cX7_rateBits 62 = .ok (.fdiv, 1) := by decide +kernel
theorem dX7_rateBits_63 : decode cX7_rateBits 63 = .ok (.invokestatic 126, 3) := by decide +kernel
theorem dX7_rateBits_66 : decode cX7_rateBits 66 = .ok (.ireturn, 1) := by decide +kernel
theorem dX7_octane_0 : decode cX7_octane 0 = .ok (.aload_n 0, 1) := by decide +kernel
theorem dX7_octane_1 : decode cX7_octane 1 = .ok (.iload_n 1, 1) := by decide +kernel
theorem dX7_octane_2 : decode cX7_octane 2 = .ok (.iconst 0, 1) := by decide +kernel
theorem dX7_octane_3 : decode cX7_octane 3 = .ok (.iconst 3, 1) := by decide +kernel
theorem dX7_octane_4 : decode cX7_octane 4 = .ok (.invokestatic 38, 3) := by decide +kernel
theorem dX7_octane_7 : decode cX7_octane 7 = .ok (.ifCond .eq 7, 3) := by decide +kernel
theorem dX7_octane_10 : decode cX7_octane 10 = .ok (.iconst 0, 1) := by decide +kernel
theorem dX7_octane_11 : decode cX7_octane 11 = .ok (.goto 4, 3) := by decide +kernel
theorem dX7_octane_14 : decode cX7_octane 14 = .ok (.iconst 1, 1) := by decide +kernel
theorem dX7_octane_15 : decode cX7_octane 15 = .ok (.invokevirtual 34, 3) := by decide +kernel
theorem dX7_octane_18 : decode cX7_octane 18 = .ok (.ifCond .eq 5, 3) := by decide +kernel
theorem dX7_octane_21 : decode cX7_octane 21 = .ok (.dconst 0, 1) := by decide +kernel
theorem dX7_octane_22 : decode cX7_octane 22 = .ok (.dreturn, 1) := by decide +kernel
theorem dX7_octane_23 : decode cX7_octane 23 = .ok (.iconst 0, 1) := by decide +kernel
theorem dX7_octane_24 : decode cX7_octane 24 = .ok (.istore_n 2, 1) := by decide +kernel
theorem dX7_octane_25 : decode cX7_octane 25 = .ok (.iconst 0, 1) := by decide +kernel
theorem dX7_octane_26 : decode cX7_octane 26 = .ok (.istore_n 3, 1) := by decide +kernel
theorem dX7_octane_27 : decode cX7_octane 27 = .ok (.iconst 0, 1) := by decide +kernel
theorem dX7_octane_28 : decode cX7_octane 28 = .ok (.istore 4, 2) := by decide +kernel
theorem dX7_octane_30 : decode cX7_octane 30 = .ok (.iload 4, 2) := by decide +kernel
theorem dX7_octane_32 : decode cX7_octane 32 = .ok (.bipush 6, 2) := by decide +kernel
theorem dX7_octane_34 : decode cX7_octane 34 = .ok (.if_icmp .ge 43, 3) := by decide +kernel
theorem dX7_octane_37 : decode cX7_octane 37 = .ok (.aload_n 0, 1) := by decide +kernel
theorem dX7_octane_38 : decode cX7_octane 38 = .ok (.getfield 7, 3) := by decide +kernel
theorem dX7_octane_41 : decode cX7_octane 41 = .ok (.bipush 49, 2) := by decide +kernel
theorem dX7_octane_43 : decode cX7_octane 43 = .ok (.iconst 4, 1) := by decide +kernel
theorem dX7_octane_44 : decode cX7_octane 44 = .ok (.iload 4, 2) := by decide +kernel
theorem dX7_octane_46 : decode cX7_octane 46 = .ok (.imul, 1) := by decide +kernel
theorem dX7_octane_47 : decode cX7_octane 47 = .ok (.iadd, 1) := by decide +kernel
theorem dX7_octane_48 : decode cX7_octane 48 = .ok (.iload_n 1, 1) := by decide +kernel
theorem dX7_octane_49 : decode cX7_octane 49 = .ok (.iadd, 1) := by decide +kernel
theorem dX7_octane_50 : decode cX7_octane 50 = .ok (.iaload, 1) := by decide +kernel
theorem dX7_octane_51 : decode cX7_octane 51 = .ok (.istore 5, 2) := by decide +kernel
theorem dX7_octane_53 : decode cX7_octane 53 = .ok (.iload_n 2, 1) := by decide +kernel
theorem dX7_octane_54 : decode cX7_octane 54 = .ok (.iload 5, 2) := by decide +kernel
theorem dX7_octane_56 : decode cX7_octane 56 = .ok (.ifCond .le 7, 3) := by decide +kernel
theorem dX7_octane_59 : decode cX7_octane 59 = .ok (.iconst 1, 1) := by decide +kernel
theorem dX7_octane_60 : decode cX7_octane 60 = .ok (.goto 4, 3) := by decide +kernel
theorem dX7_octane_63 : decode cX7_octane 63 = .ok (.iconst 0, 1) := by decide +kernel
theorem dX7_octane_64 : decode cX7_octane 64 = .ok (.iadd, 1) := by decide +kernel
theorem dX7_octane_65 : decode cX7_octane 65 = .ok (.istore_n 2, 1) := by decide +kernel
theorem dX7_octane_66 : decode cX7_octane 66 = .ok (.iload_n 3, 1) := by decide +kernel
theorem dX7_octane_67 : decode cX7_octane 67 = .ok (.iload 5, 2) := by decide +kernel
theorem dX7_octane_69 : decode cX7_octane 69 = .ok (.iadd, 1) := by decide +kernel
theorem dX7_octane_70 : decode cX7_octane 70 = .ok (.istore_n 3, 1) := by decide +kernel
theorem dX7_octane_71 : decode cX7_octane 71 = .ok (.iinc 4 1, 3) := by decide +kernel
theorem dX7_octane_74 : decode cX7_octane 74 = .ok (.goto (-44), 3) := by decide +kernel
theorem dX7_octane_77 : decode cX7_octane 77 = .ok (.iload_n 2, 1) := by decide +kernel
theorem dX7_octane_78 : decode cX7_octane 78 = .ok (.ifCond .ne 9, 3) := by decide +kernel
theorem dX7_octane_81 : decode cX7_octane 81 = .ok (.ldc2_w 132, 3) := by decide +kernel
theorem dX7_octane_84 : decode cX7_octane 84 = .ok (.goto 16, 3) := by decide +kernel
theorem dX7_octane_87 : decode cX7_octane 87 = .ok (.ldc2_w 132, 3) := by decide +kernel
theorem dX7_octane_90 : decode cX7_octane 90 = .ok (.iload_n 3, 1) := by decide +kernel
theorem dX7_octane_91 : decode cX7_octane 91 = .ok (.i2d, 1) := by decide +kernel
theorem dX7_octane_92 : decode cX7_octane 92 = .ok (.iload_n 2, 1) := by decide +kernel
theorem dX7_octane_93 : decode cX7_octane 93 = .ok (.i2d, 1) := by decide +kernel
theorem dX7_octane_94 : decode cX7_octane 94 = .ok (.ddiv, 1) := by decide +kernel
theorem dX7_octane_95 : decode cX7_octane 95 = .ok (.ldc2_w 134, 3) := by decide +kernel
theorem dX7_octane_98 : decode cX7_octane 98 = .ok (.ddiv, 1) := by decide +kernel
theorem dX7_octane_99 : decode cX7_octane 99 = .ok (.dsub, 1) := by decide +kernel
theorem dX7_octane_100 : decode cX7_octane 100 = .ok (.dreturn, 1) := by decide +kernel
theorem dX7_extreme_0 : decode cX7_extreme 0 = .ok (.aload_n 0, 1) := by decide +kernel
theorem dX7_extreme_1 : decode cX7_extreme 1 = .ok (.iload_n 1, 1) := by decide +kernel
theorem dX7_extreme_2 : decode cX7_extreme 2 = .ok (.iconst 0, 1) := by decide +kernel
theorem dX7_extreme_3 : decode cX7_extreme 3 = .ok (.iload_n 2, 1) := by decide +kernel
theorem dX7_extreme_4 : decode cX7_extreme 4 = .ok (.ifCond .eq 7, 3) := by decide +kernel
theorem dX7_extreme_7 : decode cX7_extreme 7 = .ok (.iconst 5, 1) := by decide +kernel
theorem dX7_extreme_8 : decode cX7_extreme 8 = .ok (.goto 4, 3) := by decide +kernel
theorem dX7_extreme_11 : decode cX7_extreme 11 = .ok (.iconst 3, 1) := by decide +kernel
theorem dX7_extreme_12 : decode cX7_extreme 12 = .ok (.invokestatic 38, 3) := by decide +kernel
theorem dX7_extreme_15 : decode cX7_extreme 15 = .ok (.ifCond .eq 7, 3) := by decide +kernel
theorem dX7_extreme_18 : decode cX7_extreme 18 = .ok (.iconst 0, 1) := by decide +kernel
theorem dX7_extreme_19 : decode cX7_extreme 19 = .ok (.goto 4, 3) := by decide +kernel
theorem dX7_extreme_22 : decode cX7_extreme 22 = .ok (.iconst 1, 1) := by decide +kernel
theorem dX7_extreme_23 : decode cX7_extreme 23 = .ok (.invokevirtual 34, 3) := by decide +kernel
theorem dX7_extreme_26 : decode cX7_extreme 26 = .ok (.ifCond .eq 5, 3) := by decide +kernel
theorem dX7_extreme_29 : decode cX7_extreme 29 = .ok (.iconst 0, 1) := by decide +kernel
theorem dX7_extreme_30 : decode cX7_extreme 30 = .ok (.ireturn, 1) := by decide +kernel
theorem dX7_extreme_31 : decode cX7_extreme 31 = .ok (.aload_n 0, 1) := by decide +kernel
theorem dX7_extreme_32 : decode cX7_extreme 32 = .ok (.getfield 7, 3) := by decide +kernel
theorem dX7_extreme_35 : decode cX7_extreme 35 = .ok (.bipush 49, 2) := by decide +kernel
theorem dX7_extreme_37 : decode cX7_extreme 37 = .ok (.iload_n 2, 1) := by decide +kernel
theorem dX7_extreme_38 : decode cX7_extreme 38 = .ok (.ifCond .eq 9, 3) := by decide +kernel
theorem dX7_extreme_41 : decode cX7_extreme 41 = .ok (.iconst 4, 1) := by decide +kernel
theorem dX7_extreme_42 : decode cX7_extreme 42 = .ok (.iload_n 1, 1) := by decide +kernel
theorem dX7_extreme_43 : decode cX7_extreme 43 = .ok (.imul, 1) := by decide +kernel
theorem dX7_extreme_44 : decode cX7_extreme 44 = .ok (.goto 4, 3) := by decide +kernel
theorem dX7_extreme_47 : decode cX7_extreme 47 = .ok (.iload_n 1, 1) := by decide +kernel
theorem dX7_extreme_48 : decode cX7_extreme 48 = .ok (.iadd, 1) := by decide +kernel
theorem dX7_extreme_49 : decode cX7_extreme 49 = .ok (.iaload, 1) := by decide +kernel
theorem dX7_extreme_50 : decode cX7_extreme 50 = .ok (.istore 4, 2) := by decide +kernel
theorem dX7_extreme_52 : decode cX7_extreme 52 = .ok (.iconst 0, 1) := by decide +kernel
theorem dX7_extreme_53 : decode cX7_extreme 53 = .ok (.istore 5, 2) := by decide +kernel
theorem dX7_extreme_55 : decode cX7_extreme 55 = .ok (.iload 5, 2) := by decide +kernel
theorem dX7_extreme_57 : decode cX7_extreme 57 = .ok (.bipush 24, 2) := by decide +kernel
theorem dX7_extreme_59 : decode cX7_extreme 59 = .ok (.if_icmp .ge 70, 3) := by decide +kernel
theorem dX7_extreme_62 : decode cX7_extreme 62 = .ok (.aload_n 0, 1) := by decide +kernel
theorem dX7_extreme_63 : decode cX7_extreme 63 = .ok (.getfield 7, 3) := by decide +kernel
theorem dX7_extreme_66 : decode cX7_extreme 66 = .ok (.bipush 49, 2) := by decide +kernel
theorem dX7_extreme_68 : decode cX7_extreme 68 = .ok (.iload 5, 2) := by decide +kernel
theorem dX7_extreme_70 : decode cX7_extreme 70 = .ok (.iadd, 1) := by decide +kernel
theorem dX7_extreme_71 : decode cX7_extreme 71 = .ok (.iaload, 1) := by decide +kernel
theorem dX7_extreme_72 : decode cX7_extreme 72 = .ok (.istore 6, 2) := by decide +kernel
theorem dX7_extreme_74 : decode cX7_extreme 74 = .ok (.iload_n 2, 1) := by decide +kernel
theorem dX7_extreme_75 : decode cX7_extreme 75 = .ok (.ifCond .eq 10, 3) := by decide +kernel
theorem dX7_extreme_78 : decode cX7_extreme 78 = .ok (.iload 5, 2) := by decide +kernel
theorem dX7_extreme_80 : decode cX7_extreme 80 = .ok (.iconst 4, 1) := by decide +kernel
theorem dX7_extreme_81 : decode cX7_extreme 81 = .ok (.idiv, 1) := by decide +kernel
theorem dX7_extreme_82 : decode cX7_extreme 82 = .ok (.goto 7, 3) := by decide +kernel
theorem dX7_extreme_85 : decode cX7_extreme 85 = .ok (.iload 5, 2) := by decide +kernel
theorem dX7_extreme_87 : decode cX7_extreme 87 = .ok (.iconst 4, 1) := by decide +kernel
theorem dX7_extreme_88 : decode cX7_extreme 88 = .ok (.irem, 1) := by decide +kernel
theorem dX7_extreme_89 : decode cX7_extreme 89 = .ok (.iload_n 1, 1) := by decide +kernel
theorem dX7_extreme_90 : decode cX7_extreme 90 = .ok (.if_icmp .ne 33, 3) := by decide +kernel
theorem dX7_extreme_93 : decode cX7_extreme 93 = .ok (.iload_n 3, 1) := by decide +kernel
theorem dX7_extreme_94 : decode cX7_extreme 94 = .ok (.ifCond .eq 20, 3) := by decide +kernel
theorem dX7_extreme_97 : decode cX7_extreme 97 = .ok (.iload 6, 2) := by decide +kernel
theorem dX7_extreme_99 : decode cX7_extreme 99 = .ok (.iload 4, 2) := by decide +kernel
theorem dX7_extreme_101 : decode cX7_extreme 101 = .ok (.if_icmp .le 8, 3) := by decide +kernel
theorem dX7_extreme_104 : decode cX7_extreme 104 = .ok (.iload 6, 2) := by decide +kernel
theorem dX7_extreme_106 : decode cX7_extreme 106 = .ok (.goto 15, 3) := by decide +kernel
theorem dX7_extreme_109 : decode cX7_extreme 109 = .ok (.iload 4, 2) := by decide +kernel
theorem dX7_extreme_111 : decode cX7_extreme 111 = .ok (.goto 10, 3) := by decide +kernel
theorem dX7_extreme_114 : decode cX7_extreme 114 = .ok (.iload 4, 2) := by decide +kernel
theorem dX7_extreme_116 : decode cX7_extreme 116 = .ok (.iload 6, 2) := by decide +kernel
theorem dX7_extreme_118 : decode cX7_extreme 118 = .ok (.invokestatic 53, 3) := by decide +kernel
theorem dX7_extreme_121 : decode cX7_extreme 121 = .ok (.istore 4, 2) := by decide +kernel
theorem dX7_extreme_123 : decode cX7_extreme 123 = .ok (.iinc 5 1, 3) := by decide +kernel
theorem dX7_extreme_126 : decode cX7_extreme 126 = .ok (.goto (-71), 3) := by decide +kernel
theorem dX7_extreme_129 : decode cX7_extreme 129 = .ok (.iload 4, 2) := by decide +kernel
theorem dX7_extreme_131 : decode cX7_extreme 131 = .ok (.ireturn, 1) := by decide +kernel
theorem dX7_events_0 : decode cX7_events 0 = .ok (.aload_n 0, 1) := by decide +kernel
theorem dX7_events_1 : decode cX7_events 1 = .ok (.iconst 0, 1) := by decide +kernel
theorem dX7_events_2 : decode cX7_events 2 = .ok (.putfield 27, 3) := by decide +kernel
theorem dX7_events_5 : decode cX7_events 5 = .ok (.aload_n 0, 1) := by decide +kernel
theorem dX7_events_6 : decode cX7_events 6 = .ok (.getfield 7, 3) := by decide +kernel
theorem dX7_events_9 : decode cX7_events 9 = .ok (.bipush 73, 2) := by decide +kernel
theorem dX7_events_11 : decode cX7_events 11 = .ok (.iaload, 1) := by decide +kernel
theorem dX7_events_12 : decode cX7_events 12 = .ok (.ireturn, 1) := by decide +kernel
theorem dX7_event_0 : decode cX7_event 0 = .ok (.aload_n 0, 1) := by decide +kernel
theorem dX7_event_1 : decode cX7_event 1 = .ok (.iload_n 1, 1) := by decide +kernel
theorem dX7_event_2 : decode cX7_event 2 = .ok (.iconst 0, 1) := by decide +kernel
theorem dX7_event_3 : decode cX7_event 3 = .ok (.aload_n 0, 1) := by decide +kernel
theorem dX7_event_4 : decode cX7_event 4 = .ok (.getfield 7, 3) := by decide +kernel
theorem dX7_event_7 : decode cX7_event 7 = .ok (.bipush 73, 2) := by decide +kernel
theorem dX7_event_9 : decode cX7_event 9 = .ok (.iaload, 1) := by decide +kernel
theorem dX7_event_10 : decode cX7_event 10 = .ok (.iconst 1, 1) := by decide +kernel
theorem dX7_event_11 : decode cX7_event 11 = .ok (.isub, 1) := by decide +kernel
theorem dX7_event_12 : decode cX7_event 12 = .ok (.invokestatic 38, 3) := by decide +kernel
theorem dX7_event_15 : decode cX7_event 15 = .ok (.ifCond .ne 7, 3) := by decide +kernel
theorem dX7_event_18 : decode cX7_event 18 = .ok (.iconst 1, 1) := by decide +kernel
theorem dX7_event_19 : decode cX7_event 19 = .ok (.goto 17, 3) := by decide +kernel
theorem dX7_event_22 : decode cX7_event 22 = .ok (.iload_n 2, 1) := by decide +kernel
theorem dX7_event_23 : decode cX7_event 23 = .ok (.iconst 0, 1) := by decide +kernel
theorem dX7_event_24 : decode cX7_event 24 = .ok (.iconst 2, 1) := by decide +kernel
theorem dX7_event_25 : decode cX7_event 25 = .ok (.invokestatic 38, 3) := by decide +kernel
theorem dX7_event_28 : decode cX7_event 28 = .ok (.ifCond .eq 7, 3) := by decide +kernel
theorem dX7_event_31 : decode cX7_event 31 = .ok (.iconst 0, 1) := by decide +kernel
theorem dX7_event_32 : decode cX7_event 32 = .ok (.goto 4, 3) := by decide +kernel
theorem dX7_event_35 : decode cX7_event 35 = .ok (.iconst 2, 1) := by decide +kernel
theorem dX7_event_36 : decode cX7_event 36 = .ok (.invokevirtual 34, 3) := by decide +kernel
theorem dX7_event_39 : decode cX7_event 39 = .ok (.ifCond .eq 7, 3) := by decide +kernel
theorem dX7_event_42 : decode cX7_event 42 = .ok (.iconst 0, 1) := by decide +kernel
theorem dX7_event_43 : decode cX7_event 43 = .ok (.goto 16, 3) := by decide +kernel
theorem dX7_event_46 : decode cX7_event 46 = .ok (.aload_n 0, 1) := by decide +kernel
theorem dX7_event_47 : decode cX7_event 47 = .ok (.getfield 7, 3) := by decide +kernel
theorem dX7_event_50 : decode cX7_event 50 = .ok (.bipush 74, 2) := by decide +kernel
theorem dX7_event_52 : decode cX7_event 52 = .ok (.iconst 3, 1) := by decide +kernel
theorem dX7_event_53 : decode cX7_event 53 = .ok (.iload_n 1, 1) := by decide +kernel
theorem dX7_event_54 : decode cX7_event 54 = .ok (.imul, 1) := by decide +kernel
theorem dX7_event_55 : decode cX7_event 55 = .ok (.iadd, 1) := by decide +kernel
theorem dX7_event_56 : decode cX7_event 56 = .ok (.iload_n 2, 1) := by decide +kernel
theorem dX7_event_57 : decode cX7_event 57 = .ok (.iadd, 1) := by decide +kernel
theorem dX7_event_58 : decode cX7_event 58 = .ok (.iaload, 1) := by decide +kernel
theorem dX7_event_59 : decode cX7_event 59 = .ok (.ireturn, 1) := by decide +kernel
theorem dX7_eventsOf_0 : decode cX7_eventsOf 0 = .ok (.aload_n 0, 1) := by decide +kernel
theorem dX7_eventsOf_1 : decode cX7_eventsOf 1 = .ok (.iload_n 1, 1) := by decide +kernel
theorem dX7_eventsOf_2 : decode cX7_eventsOf 2 = .ok (.iconst 0, 1) := by decide +kernel
theorem dX7_eventsOf_3 : decode cX7_eventsOf 3 = .ok (.iconst 4, 1) := by decide +kernel
theorem dX7_eventsOf_4 : decode cX7_eventsOf 4 = .ok (.invokestatic 38, 3) := by decide +kernel
theorem dX7_eventsOf_7 : decode cX7_eventsOf 7 = .ok (.ifCond .eq 7, 3) := by decide +kernel
theorem dX7_eventsOf_10 : decode cX7_eventsOf 10 = .ok (.iconst 0, 1) := by decide +kernel
theorem dX7_eventsOf_11 : decode cX7_eventsOf 11 = .ok (.goto 4, 3) := by decide +kernel
theorem dX7_eventsOf_14 : decode cX7_eventsOf 14 = .ok (.iconst 1, 1) := by decide +kernel
theorem dX7_eventsOf_15 : decode cX7_eventsOf 15 = .ok (.invokevirtual 34, 3) := by decide +kernel
theorem dX7_eventsOf_18 : decode cX7_eventsOf 18 = .ok (.ifCond .eq 5, 3) := by decide +kernel
theorem dX7_eventsOf_21 : decode cX7_eventsOf 21 = .ok (.iconst 0, 1) := by decide +kernel
theorem dX7_eventsOf_22 : decode cX7_eventsOf 22 = .ok (.ireturn, 1) := by decide +kernel
theorem dX7_eventsOf_23 : decode cX7_eventsOf 23 = .ok (.iconst 0, 1) := by decide +kernel
theorem dX7_eventsOf_24 : decode cX7_eventsOf 24 = .ok (.istore_n 2, 1) := by decide +kernel
theorem dX7_eventsOf_25 : decode cX7_eventsOf 25 = .ok (.iconst 0, 1) := by decide +kernel
theorem dX7_eventsOf_26 : decode cX7_eventsOf 26 = .ok (.istore_n 3, 1) := by decide +kernel
theorem dX7_eventsOf_27 : decode cX7_eventsOf 27 = .ok (.iload_n 3, 1) := by decide +kernel
theorem dX7_eventsOf_28 : decode cX7_eventsOf 28 = .ok (.aload_n 0, 1) := by decide +kernel
theorem dX7_eventsOf_29 : decode cX7_eventsOf 29 = .ok (.getfield 7, 3) := by decide +kernel
theorem dX7_eventsOf_32 : decode cX7_eventsOf 32 = .ok (.bipush 73, 2) := by decide +kernel
theorem dX7_eventsOf_34 : decode cX7_eventsOf 34 = .ok (.iaload, 1) := by decide +kernel
theorem dX7_eventsOf_35 : decode cX7_eventsOf 35 = .ok (.if_icmp .ge 32, 3) := by decide +kernel
theorem dX7_eventsOf_38 : decode cX7_eventsOf 38 = .ok (.iload_n 2, 1) := by decide +kernel
theorem dX7_eventsOf_39 : decode cX7_eventsOf 39 = .ok (.aload_n 0, 1) := by decide +kernel
theorem dX7_eventsOf_40 : decode cX7_eventsOf 40 = .ok (.getfield 7, 3) := by decide +kernel
theorem dX7_eventsOf_43 : decode cX7_eventsOf 43 = .ok (.bipush 74, 2) := by decide +kernel
theorem dX7_eventsOf_45 : decode cX7_eventsOf 45 = .ok (.iconst 3, 1) := by decide +kernel
theorem dX7_eventsOf_46 : decode cX7_eventsOf 46 = .ok (.iload_n 3, 1) := by decide +kernel
theorem dX7_eventsOf_47 : decode cX7_eventsOf 47 = .ok (.imul, 1) := by decide +kernel
theorem dX7_eventsOf_48 : decode cX7_eventsOf 48 = .ok (.iadd, 1) := by decide +kernel
theorem dX7_eventsOf_49 : decode cX7_eventsOf 49 = .ok (.iaload, 1) := by decide +kernel
theorem dX7_eventsOf_50 : decode cX7_eventsOf 50 = .ok (.iload_n 1, 1) := by decide +kernel
theorem dX7_eventsOf_51 : decode cX7_eventsOf 51 = .ok (.if_icmp .ne 7, 3) := by decide +kernel
theorem dX7_eventsOf_54 : decode cX7_eventsOf 54 = .ok (.iconst 1, 1) := by decide +kernel
theorem dX7_eventsOf_55 : decode cX7_eventsOf 55 = .ok (.goto 4, 3) := by decide +kernel
theorem dX7_eventsOf_58 : decode cX7_eventsOf 58 = .ok (.iconst 0, 1) := by decide +kernel
theorem dX7_eventsOf_59 : decode cX7_eventsOf 59 = .ok (.iadd, 1) := by decide +kernel
theorem dX7_eventsOf_60 : decode cX7_eventsOf 60 = .ok (.istore_n 2, 1) := by decide +kernel
theorem dX7_eventsOf_61 : decode cX7_eventsOf 61 = .ok (.iinc 3 1, 3) := by decide +kernel
theorem dX7_eventsOf_64 : decode cX7_eventsOf 64 = .ok (.goto (-37), 3) := by decide +kernel
theorem dX7_eventsOf_67 : decode cX7_eventsOf 67 = .ok (.iload_n 2, 1) := by decide +kernel
theorem dX7_eventsOf_68 : decode cX7_eventsOf 68 = .ok (.ireturn, 1) := by decide +kernel
theorem dX7_limit_0 : decode cX7_limit 0 = .ok (.iload_n 2, 1) := by decide +kernel
theorem dX7_limit_1 : decode cX7_limit 1 = .ok (.iload_n 3, 1) := by decide +kernel
theorem dX7_limit_2 : decode cX7_limit 2 = .ok (.invokestatic 111, 3) := by decide +kernel
theorem dX7_limit_5 : decode cX7_limit 5 = .ok (.ifCond .eq 15, 3) := by decide +kernel
theorem dX7_limit_8 : decode cX7_limit 8 = .ok (.iload 4, 2) := by decide +kernel
theorem dX7_limit_10 : decode cX7_limit 10 = .ok (.invokestatic 114, 3) := by decide +kernel
theorem dX7_limit_13 : decode cX7_limit 13 = .ok (.ifCond .eq 7, 3) := by decide +kernel
theorem dX7_limit_16 : decode cX7_limit 16 = .ok (.iconst 1, 1) := by decide +kernel
theorem dX7_limit_17 : decode cX7_limit 17 = .ok (.goto 4, 3) := by decide +kernel
theorem dX7_limit_20 : decode cX7_limit 20 = .ok (.iconst 0, 1) := by decide +kernel
theorem dX7_limit_21 : decode cX7_limit 21 = .ok (.istore 5, 2) := by decide +kernel
theorem dX7_limit_23 : decode cX7_limit 23 = .ok (.aload_n 0, 1) := by decide +kernel
theorem dX7_limit_24 : decode cX7_limit 24 = .ok (.iload_n 1, 1) := by decide +kernel
theorem dX7_limit_25 : decode cX7_limit 25 = .ok (.iconst (-1), 1) := by decide +kernel
theorem dX7_limit_26 : decode cX7_limit 26 = .ok (.if_icmp .eq 15, 3) := by decide +kernel
theorem dX7_limit_29 : decode cX7_limit 29 = .ok (.aload_n 0, 1) := by decide +kernel
theorem dX7_limit_30 : decode cX7_limit 30 = .ok (.iload_n 1, 1) := by decide +kernel
theorem dX7_limit_31 : decode cX7_limit 31 = .ok (.invokevirtual 120, 3) := by decide +kernel
theorem dX7_limit_34 : decode cX7_limit 34 = .ok (.ifCond .ne 7, 3) := by decide +kernel
theorem dX7_limit_37 : decode cX7_limit 37 = .ok (.iconst 1, 1) := by decide +kernel
theorem dX7_limit_38 : decode cX7_limit 38 = .ok (.goto 13, 3) := by decide +kernel
theorem dX7_limit_41 : decode cX7_limit 41 = .ok (.iload 5, 2) := by decide +kernel
theorem dX7_limit_43 : decode cX7_limit 43 = .ok (.ifCond .eq 7, 3) := by decide +kernel
theorem dX7_limit_46 : decode cX7_limit 46 = .ok (.iconst 0, 1) := by decide +kernel
theorem dX7_limit_47 : decode cX7_limit 47 = .ok (.goto 4, 3) := by decide +kernel
theorem dX7_limit_50 : decode cX7_limit 50 = .ok (.iconst 2, 1) := by decide +kernel
theorem dX7_limit_51 : decode cX7_limit 51 = .ok (.invokevirtual 34, 3) := by decide +kernel
theorem dX7_limit_54 : decode cX7_limit 54 = .ok (.ifCond .eq 5, 3) := by decide +kernel
theorem dX7_limit_57 : decode cX7_limit 57 = .ok (.iconst 0, 1) := by decide +kernel
theorem dX7_limit_58 : decode cX7_limit 58 = .ok (.ireturn, 1) := by decide +kernel
theorem dX7_limit_59 : decode cX7_limit 59 = .ok (.iload_n 2, 1) := by decide +kernel
theorem dX7_limit_60 : decode cX7_limit 60 = .ok (.iload_n 3, 1) := by decide +kernel
theorem dX7_limit_61 : decode cX7_limit 61 = .ok (.iload 4, 2) := by decide +kernel
theorem dX7_limit_63 : decode cX7_limit 63 = .ok (.invokestatic 104, 3) := by decide +kernel
theorem dX7_limit_66 : decode cX7_limit 66 = .ok (.istore 6, 2) := by decide +kernel
theorem dX7_limit_68 : decode cX7_limit 68 = .ok (.iload_n 1, 1) := by decide +kernel
theorem dX7_limit_69 : decode cX7_limit 69 = .ok (.iconst (-1), 1) := by decide +kernel
theorem dX7_limit_70 : decode cX7_limit 70 = .ok (.if_icmp .ne 8, 3) := by decide +kernel
theorem dX7_limit_73 : decode cX7_limit 73 = .ok (.iload 6, 2) := by decide +kernel
theorem dX7_limit_75 : decode cX7_limit 75 = .ok (.goto 13, 3) := by decide +kernel
theorem dX7_limit_78 : decode cX7_limit 78 = .ok (.aload_n 0, 1) := by decide +kernel
theorem dX7_limit_79 : decode cX7_limit 79 = .ok (.iload_n 1, 1) := by decide +kernel
theorem dX7_limit_80 : decode cX7_limit 80 = .ok (.iload_n 2, 1) := by decide +kernel
theorem dX7_limit_81 : decode cX7_limit 81 = .ok (.iload_n 3, 1) := by decide +kernel
theorem dX7_limit_82 : decode cX7_limit 82 = .ok (.invokevirtual 100, 3) := by decide +kernel
theorem dX7_limit_85 : decode cX7_limit 85 = .ok (.iload 6, 2) := by decide +kernel
theorem dX7_limit_87 : decode cX7_limit 87 = .ok (.isub, 1) := by decide +kernel
theorem dX7_limit_88 : decode cX7_limit 88 = .ok (.ireturn, 1) := by decide +kernel
theorem dX7_quietAfter_0 : decode cX7_quietAfter 0 = .ok (.aload_n 0, 1) := by decide +kernel
theorem dX7_quietAfter_1 : decode cX7_quietAfter 1 = .ok (.iload_n 1, 1) := by decide +kernel
theorem dX7_quietAfter_2 : decode cX7_quietAfter 2 = .ok (.iload_n 2, 1) := by decide +kernel
theorem dX7_quietAfter_3 : decode cX7_quietAfter 3 = .ok (.invokestatic 111, 3) := by decide +kernel
theorem dX7_quietAfter_6 : decode cX7_quietAfter 6 = .ok (.ifCond .eq 14, 3) := by decide +kernel
theorem dX7_quietAfter_9 : decode cX7_quietAfter 9 = .ok (.iload_n 3, 1) := by decide +kernel
theorem dX7_quietAfter_10 : decode cX7_quietAfter 10 = .ok (.invokestatic 114, 3) := by decide +kernel
theorem dX7_quietAfter_13 : decode cX7_quietAfter 13 = .ok (.ifCond .eq 7, 3) := by decide +kernel
theorem dX7_quietAfter_16 : decode cX7_quietAfter 16 = .ok (.iconst 0, 1) := by decide +kernel
theorem dX7_quietAfter_17 : decode cX7_quietAfter 17 = .ok (.goto 4, 3) := by decide +kernel
theorem dX7_quietAfter_20 : decode cX7_quietAfter 20 = .ok (.iconst 1, 1) := by decide +kernel
theorem dX7_quietAfter_21 : decode cX7_quietAfter 21 = .ok (.invokevirtual 34, 3) := by decide +kernel
theorem dX7_quietAfter_24 : decode cX7_quietAfter 24 = .ok (.ifCond .eq 5, 3) := by decide +kernel
theorem dX7_quietAfter_27 : decode cX7_quietAfter 27 = .ok (.iconst 0, 1) := by decide +kernel
theorem dX7_quietAfter_28 : decode cX7_quietAfter 28 = .ok (.ireturn, 1) := by decide +kernel
theorem dX7_quietAfter_29 : decode cX7_quietAfter 29 = .ok (.aload_n 0, 1) := by decide +kernel
theorem dX7_quietAfter_30 : decode cX7_quietAfter 30 = .ok (.invokevirtual 136, 3) := by decide +kernel
theorem dX7_quietAfter_33 : decode cX7_quietAfter 33 = .ok (.iconst 0, 1) := by decide +kernel
theorem dX7_quietAfter_34 : decode cX7_quietAfter 34 = .ok (.istore 4, 2) := by decide +kernel
theorem dX7_quietAfter_36 : decode cX7_quietAfter 36 = .ok (.iconst 0, 1) := by decide +kernel
theorem dX7_quietAfter_37 : decode cX7_quietAfter 37 = .ok (.istore 5, 2) := by decide +kernel
theorem dX7_quietAfter_39 : decode cX7_quietAfter 39 = .ok (.iload 5, 2) := by decide +kernel
theorem dX7_quietAfter_41 : decode cX7_quietAfter 41 = .ok (.iconst 5, 1) := by decide +kernel
theorem dX7_quietAfter_42 : decode cX7_quietAfter 42 = .ok (.aload_n 0, 1) := by decide +kernel
theorem dX7_quietAfter_43 : decode cX7_quietAfter 43 = .ok (.getfield 7, 3) := by decide +kernel
theorem dX7_quietAfter_46 : decode cX7_quietAfter 46 = .ok (.bipush 8, 2) := by decide +kernel
theorem dX7_quietAfter_48 : decode cX7_quietAfter 48 = .ok (.iaload, 1) := by decide +kernel
theorem dX7_quietAfter_49 : decode cX7_quietAfter 49 = .ok (.imul, 1) := by decide +kernel
theorem dX7_quietAfter_50 : decode cX7_quietAfter 50 = .ok (.if_icmp .ge 38, 3) := by decide +kernel
theorem dX7_quietAfter_53 : decode cX7_quietAfter 53 = .ok (.iload 4, 2) := by decide +kernel
theorem dX7_quietAfter_55 : decode cX7_quietAfter 55 = .ok (.sipush 1000, 3) := by decide +kernel
theorem dX7_quietAfter_58 : decode cX7_quietAfter 58 = .ok (.if_icmp .ge 30, 3) := by decide +kernel
theorem dX7_quietAfter_61 : decode cX7_quietAfter 61 = .ok (.aload_n 0, 1) := by decide +kernel
theorem dX7_quietAfter_62 : decode cX7_quietAfter 62 = .ok (.iload_n 1, 1) := by decide +kernel
theorem dX7_quietAfter_63 : decode cX7_quietAfter 63 = .ok (.iload_n 2, 1) := by decide +kernel
theorem dX7_quietAfter_64 : decode cX7_quietAfter 64 = .ok (.iload_n 3, 1) := by decide +kernel
theorem dX7_quietAfter_65 : decode cX7_quietAfter 65 = .ok (.invokevirtual 117, 3) := by decide +kernel
theorem dX7_quietAfter_68 : decode cX7_quietAfter 68 = .ok (.iconst 1, 1) := by decide +kernel
theorem dX7_quietAfter_69 : decode cX7_quietAfter 69 = .ok (.if_icmp .ne 7, 3) := by decide +kernel
theorem dX7_quietAfter_72 : decode cX7_quietAfter 72 = .ok (.iconst 0, 1) := by decide +kernel
theorem dX7_quietAfter_73 : decode cX7_quietAfter 73 = .ok (.goto 7, 3) := by decide +kernel
theorem dX7_quietAfter_76 : decode cX7_quietAfter 76 = .ok (.iload 5, 2) := by decide +kernel
theorem dX7_quietAfter_78 : decode cX7_quietAfter 78 = .ok (.iconst 1, 1) := by decide +kernel
theorem dX7_quietAfter_79 : decode cX7_quietAfter 79 = .ok (.iadd, 1) := by decide +kernel
theorem dX7_quietAfter_80 : decode cX7_quietAfter 80 = .ok (.istore 5, 2) := by decide +kernel
theorem dX7_quietAfter_82 : decode cX7_quietAfter 82 = .ok (.iinc 4 1, 3) := by decide +kernel
theorem dX7_quietAfter_85 : decode cX7_quietAfter 85 = .ok (.goto (-46), 3) := by decide +kernel
theorem dX7_quietAfter_88 : decode cX7_quietAfter 88 = .ok (.iload 5, 2) := by decide +kernel
theorem dX7_quietAfter_90 : decode cX7_quietAfter 90 = .ok (.iconst 5, 1) := by decide +kernel
theorem dX7_quietAfter_91 : decode cX7_quietAfter 91 = .ok (.aload_n 0, 1) := by decide +kernel
theorem dX7_quietAfter_92 : decode cX7_quietAfter 92 = .ok (.getfield 7, 3) := by decide +kernel
theorem dX7_quietAfter_95 : decode cX7_quietAfter 95 = .ok (.bipush 8, 2) := by decide +kernel
theorem dX7_quietAfter_97 : decode cX7_quietAfter 97 = .ok (.iaload, 1) := by decide +kernel
theorem dX7_quietAfter_98 : decode cX7_quietAfter 98 = .ok (.imul, 1) := by decide +kernel
theorem dX7_quietAfter_99 : decode cX7_quietAfter 99 = .ok (.if_icmp .ne 7, 3) := by decide +kernel
theorem dX7_quietAfter_102 : decode cX7_quietAfter 102 = .ok (.iconst 1, 1) := by decide +kernel
theorem dX7_quietAfter_103 : decode cX7_quietAfter 103 = .ok (.goto 4, 3) := by decide +kernel
theorem dX7_quietAfter_106 : decode cX7_quietAfter 106 = .ok (.iconst 0, 1) := by decide +kernel
theorem dX7_quietAfter_107 : decode cX7_quietAfter 107 = .ok (.istore 6, 2) := by decide +kernel
theorem dX7_quietAfter_109 : decode cX7_quietAfter 109 = .ok (.aload_n 0, 1) := by decide +kernel
theorem dX7_quietAfter_110 : decode cX7_quietAfter 110 = .ok (.invokevirtual 139, 3) := by decide +kernel
theorem dX7_quietAfter_113 : decode cX7_quietAfter 113 = .ok (.iload 6, 2) := by decide +kernel
theorem dX7_quietAfter_115 : decode cX7_quietAfter 115 = .ok (.ifCond .eq 8, 3) := by decide +kernel
theorem dX7_quietAfter_118 : decode cX7_quietAfter 118 = .ok (.iload 4, 2) := by decide +kernel
theorem dX7_quietAfter_120 : decode cX7_quietAfter 120 = .ok (.goto 4, 3) := by decide +kernel
theorem dX7_quietAfter_123 : decode cX7_quietAfter 123 = .ok (.iconst (-1), 1) := by decide +kernel
theorem dX7_quietAfter_124 : decode cX7_quietAfter 124 = .ok (.ireturn, 1) := by decide +kernel
theorem dX7_lowestOctane_0 : decode cX7_lowestOctane 0 = .ok (.aload_n 0, 1) := by decide +kernel
theorem dX7_lowestOctane_1 : decode cX7_lowestOctane 1 = .ok (.iload_n 1, 1) := by decide +kernel
theorem dX7_lowestOctane_2 : decode cX7_lowestOctane 2 = .ok (.iload_n 2, 1) := by decide +kernel
theorem dX7_lowestOctane_3 : decode cX7_lowestOctane 3 = .ok (.invokestatic 111, 3) := by decide +kernel
theorem dX7_lowestOctane_6 : decode cX7_lowestOctane 6 = .ok (.ifCond .eq 17, 3) := by decide +kernel
theorem dX7_lowestOctane_9 : decode cX7_lowestOctane 9 = .ok (.iload_n 3, 1) := by decide +kernel
theorem dX7_lowestOctane_10 : decode cX7_lowestOctane 10 = .ok (.iconst 1, 1) := by decide +kernel
theorem dX7_lowestOctane_11 : decode cX7_lowestOctane 11 = .ok (.bipush 100, 2) := by decide +kernel
theorem dX7_lowestOctane_13 : decode cX7_lowestOctane 13 = .ok (.invokestatic 38, 3) := by decide +kernel
theorem dX7_lowestOctane_16 : decode cX7_lowestOctane 16 = .ok (.ifCond .eq 7, 3) := by decide +kernel
theorem dX7_lowestOctane_19 : decode cX7_lowestOctane 19 = .ok (.iconst 0, 1) := by decide +kernel
theorem dX7_lowestOctane_20 : decode cX7_lowestOctane 20 = .ok (.goto 4, 3) := by decide +kernel
theorem dX7_lowestOctane_23 : decode cX7_lowestOctane 23 = .ok (.iconst 1, 1) := by decide +kernel
theorem dX7_lowestOctane_24 : decode cX7_lowestOctane 24 = .ok (.invokevirtual 34, 3) := by decide +kernel
theorem dX7_lowestOctane_27 : decode cX7_lowestOctane 27 = .ok (.ifCond .eq 5, 3) := by decide +kernel
theorem dX7_lowestOctane_30 : decode cX7_lowestOctane 30 = .ok (.iconst 0, 1) := by decide +kernel
theorem dX7_lowestOctane_31 : decode cX7_lowestOctane 31 = .ok (.ireturn, 1) := by decide +kernel
theorem dX7_lowestOctane_32 : decode cX7_lowestOctane 32 = .ok (.aload_n 0, 1) := by decide +kernel
theorem dX7_lowestOctane_33 : decode cX7_lowestOctane 33 = .ok (.invokevirtual 136, 3) := by decide +kernel
theorem dX7_lowestOctane_36 : decode cX7_lowestOctane 36 = .ok (.iconst (-1), 1) := by decide +kernel
theorem dX7_lowestOctane_37 : decode cX7_lowestOctane 37 = .ok (.istore 4, 2) := by decide +kernel
theorem dX7_lowestOctane_39 : decode cX7_lowestOctane 39 = .ok (.bipush 80, 2) := by decide +kernel
theorem dX7_lowestOctane_41 : decode cX7_lowestOctane 41 = .ok (.istore 5, 2) := by decide +kernel
theorem dX7_lowestOctane_43 : decode cX7_lowestOctane 43 = .ok (.iload 5, 2) := by decide +kernel
theorem dX7_lowestOctane_45 : decode cX7_lowestOctane 45 = .ok (.bipush 110, 2) := by decide +kernel
theorem dX7_lowestOctane_47 : decode cX7_lowestOctane 47 = .ok (.if_icmp .gt 60, 3) := by decide +kernel
theorem dX7_lowestOctane_50 : decode cX7_lowestOctane 50 = .ok (.iload 4, 2) := by decide +kernel
theorem dX7_lowestOctane_52 : decode cX7_lowestOctane 52 = .ok (.iconst (-1), 1) := by decide +kernel
theorem dX7_lowestOctane_53 : decode cX7_lowestOctane 53 = .ok (.if_icmp .ne 54, 3) := by decide +kernel
theorem dX7_lowestOctane_56 : decode cX7_lowestOctane 56 = .ok (.iconst 0, 1) := by decide +kernel
theorem dX7_lowestOctane_57 : decode cX7_lowestOctane 57 = .ok (.istore 6, 2) := by decide +kernel
theorem dX7_lowestOctane_59 : decode cX7_lowestOctane 59 = .ok (.iload 6, 2) := by decide +kernel
theorem dX7_lowestOctane_61 : decode cX7_lowestOctane 61 = .ok (.iload_n 3, 1) := by decide +kernel
theorem dX7_lowestOctane_62 : decode cX7_lowestOctane 62 = .ok (.if_icmp .ge 21, 3) := by decide +kernel
theorem dX7_lowestOctane_65 : decode cX7_lowestOctane 65 = .ok (.aload_n 0, 1) := by decide +kernel
theorem dX7_lowestOctane_66 : decode cX7_lowestOctane 66 = .ok (.iload_n 1, 1) := by decide +kernel
theorem dX7_lowestOctane_67 : decode cX7_lowestOctane 67 = .ok (.iload_n 2, 1) := by decide +kernel
theorem dX7_lowestOctane_68 : decode cX7_lowestOctane 68 = .ok (.iload 5, 2) := by decide +kernel
theorem dX7_lowestOctane_70 : decode cX7_lowestOctane 70 = .ok (.invokevirtual 117, 3) := by decide +kernel
theorem dX7_lowestOctane_73 : decode cX7_lowestOctane 73 = .ok (.iconst 1, 1) := by decide +kernel
theorem dX7_lowestOctane_74 : decode cX7_lowestOctane 74 = .ok (.if_icmp .eq 9, 3) := by decide +kernel
theorem dX7_lowestOctane_77 : decode cX7_lowestOctane 77 = .ok (.iinc 6 1, 3) := by decide +kernel
theorem dX7_lowestOctane_80 : decode cX7_lowestOctane 80 = .ok (.goto (-21), 3) := by decide +kernel
theorem dX7_lowestOctane_83 : decode cX7_lowestOctane 83 = .ok (.iload 6, 2) := by decide +kernel
theorem dX7_lowestOctane_85 : decode cX7_lowestOctane 85 = .ok (.iload_n 3, 1) := by decide +kernel
theorem dX7_lowestOctane_86 : decode cX7_lowestOctane 86 = .ok (.if_icmp .ne 8, 3) := by decide +kernel
theorem dX7_lowestOctane_89 : decode cX7_lowestOctane 89 = .ok (.iload 5, 2) := by decide +kernel
theorem dX7_lowestOctane_91 : decode cX7_lowestOctane 91 = .ok (.goto 4, 3) := by decide +kernel
theorem dX7_lowestOctane_94 : decode cX7_lowestOctane 94 = .ok (.iconst (-1), 1) := by decide +kernel
theorem dX7_lowestOctane_95 : decode cX7_lowestOctane 95 = .ok (.istore 4, 2) := by decide +kernel
theorem dX7_lowestOctane_97 : decode cX7_lowestOctane 97 = .ok (.aload_n 0, 1) := by decide +kernel
theorem dX7_lowestOctane_98 : decode cX7_lowestOctane 98 = .ok (.invokevirtual 139, 3) := by decide +kernel
theorem dX7_lowestOctane_101 : decode cX7_lowestOctane 101 = .ok (.iinc 5 1, 3) := by decide +kernel
theorem dX7_lowestOctane_104 : decode cX7_lowestOctane 104 = .ok (.goto (-61), 3) := by decide +kernel
theorem dX7_lowestOctane_107 : decode cX7_lowestOctane 107 = .ok (.iload 4, 2) := by decide +kernel
theorem dX7_lowestOctane_109 : decode cX7_lowestOctane 109 = .ok (.ireturn, 1) := by decide +kernel
theorem dX7_append_0 : decode cX7_append 0 = .ok (.aload_n 0, 1) := by decide +kernel
theorem dX7_append_1 : decode cX7_append 1 = .ok (.iload_n 1, 1) := by decide +kernel
theorem dX7_append_2 : decode cX7_append 2 = .ok (.iconst 0, 1) := by decide +kernel
theorem dX7_append_3 : decode cX7_append 3 = .ok (.bipush 127, 2) := by decide +kernel
theorem dX7_append_5 : decode cX7_append 5 = .ok (.invokestatic 38, 3) := by decide +kernel
theorem dX7_append_8 : decode cX7_append 8 = .ok (.ifCond .ne 7, 3) := by decide +kernel
theorem dX7_append_11 : decode cX7_append 11 = .ok (.iconst 1, 1) := by decide +kernel
theorem dX7_append_12 : decode cX7_append 12 = .ok (.goto 17, 3) := by decide +kernel
theorem dX7_append_15 : decode cX7_append 15 = .ok (.aload_n 0, 1) := by decide +kernel
theorem dX7_append_16 : decode cX7_append 16 = .ok (.getfield 142, 3) := by decide +kernel
theorem dX7_append_19 : decode cX7_append 19 = .ok (.bipush 120, 2) := by decide +kernel
theorem dX7_append_21 : decode cX7_append 21 = .ok (.if_icmp .ne 7, 3) := by decide +kernel
theorem dX7_append_24 : decode cX7_append 24 = .ok (.iconst 2, 1) := by decide +kernel
theorem dX7_append_25 : decode cX7_append 25 = .ok (.goto 4, 3) := by decide +kernel
theorem dX7_append_28 : decode cX7_append 28 = .ok (.iconst 0, 1) := by decide +kernel
theorem dX7_append_29 : decode cX7_append 29 = .ok (.invokevirtual 34, 3) := by decide +kernel
theorem dX7_append_32 : decode cX7_append 32 = .ok (.ifCond .eq 5, 3) := by decide +kernel
theorem dX7_append_35 : decode cX7_append 35 = .ok (.iconst 0, 1) := by decide +kernel
theorem dX7_append_36 : decode cX7_append 36 = .ok (.ireturn, 1) := by decide +kernel
theorem dX7_append_37 : decode cX7_append 37 = .ok (.aload_n 0, 1) := by decide +kernel
theorem dX7_append_38 : decode cX7_append 38 = .ok (.getfield 19, 3) := by decide +kernel
theorem dX7_append_41 : decode cX7_append 41 = .ok (.aload_n 0, 1) := by decide +kernel
theorem dX7_append_42 : decode cX7_append 42 = .ok (.getfield 142, 3) := by decide +kernel
theorem dX7_append_45 : decode cX7_append 45 = .ok (.iload_n 1, 1) := by decide +kernel
theorem dX7_append_46 : decode cX7_append 46 = .ok (.iastore, 1) := by decide +kernel
theorem dX7_append_47 : decode cX7_append 47 = .ok (.aload_n 0, 1) := by decide +kernel
theorem dX7_append_48 : decode cX7_append 48 = .ok (.dup, 1) := by decide +kernel
theorem dX7_append_49 : decode cX7_append 49 = .ok (.getfield 142, 3) := by decide +kernel
theorem dX7_append_52 : decode cX7_append 52 = .ok (.iconst 1, 1) := by decide +kernel
theorem dX7_append_53 : decode cX7_append 53 = .ok (.iadd, 1) := by decide +kernel
theorem dX7_append_54 : decode cX7_append 54 = .ok (.putfield 142, 3) := by decide +kernel
theorem dX7_append_57 : decode cX7_append 57 = .ok (.aload_n 0, 1) := by decide +kernel
theorem dX7_append_58 : decode cX7_append 58 = .ok (.getfield 142, 3) := by decide +kernel
theorem dX7_append_61 : decode cX7_append 61 = .ok (.ireturn, 1) := by decide +kernel
theorem dX7_clearText_0 : decode cX7_clearText 0 = .ok (.aload_n 0, 1) := by decide +kernel
theorem dX7_clearText_1 : decode cX7_clearText 1 = .ok (.iconst 0, 1) := by decide +kernel
theorem dX7_clearText_2 : decode cX7_clearText 2 = .ok (.putfield 27, 3) := by decide +kernel
theorem dX7_clearText_5 : decode cX7_clearText 5 = .ok (.aload_n 0, 1) := by decide +kernel
theorem dX7_clearText_6 : decode cX7_clearText 6 = .ok (.getfield 142, 3) := by decide +kernel
theorem dX7_clearText_9 : decode cX7_clearText 9 = .ok (.istore_n 1, 1) := by decide +kernel
theorem dX7_clearText_10 : decode cX7_clearText 10 = .ok (.aload_n 0, 1) := by decide +kernel
theorem dX7_clearText_11 : decode cX7_clearText 11 = .ok (.iconst 0, 1) := by decide +kernel
theorem dX7_clearText_12 : decode cX7_clearText 12 = .ok (.putfield 142, 3) := by decide +kernel
theorem dX7_clearText_15 : decode cX7_clearText 15 = .ok (.iload_n 1, 1) := by decide +kernel
theorem dX7_clearText_16 : decode cX7_clearText 16 = .ok (.ireturn, 1) := by decide +kernel
theorem dX7_isDigit_0 : decode cX7_isDigit 0 = .ok (.aload_n 0, 1) := by decide +kernel
theorem dX7_isDigit_1 : decode cX7_isDigit 1 = .ok (.getfield 145, 3) := by decide +kernel
theorem dX7_isDigit_4 : decode cX7_isDigit 4 = .ok (.aload_n 0, 1) := by decide +kernel
theorem dX7_isDigit_5 : decode cX7_isDigit 5 = .ok (.getfield 142, 3) := by decide +kernel
theorem dX7_isDigit_8 : decode cX7_isDigit 8 = .ok (.if_icmp .ge 26, 3) := by decide +kernel
theorem dX7_isDigit_11 : decode cX7_isDigit 11 = .ok (.aload_n 0, 1) := by decide +kernel
theorem dX7_isDigit_12 : decode cX7_isDigit 12 = .ok (.getfield 19, 3) := by decide +kernel
theorem dX7_isDigit_15 : decode cX7_isDigit 15 = .ok (.aload_n 0, 1) := by decide +kernel
theorem dX7_isDigit_16 : decode cX7_isDigit 16 = .ok (.getfield 145, 3) := by decide +kernel
theorem dX7_isDigit_19 : decode cX7_isDigit 19 = .ok (.iaload, 1) := by decide +kernel
theorem dX7_isDigit_20 : decode cX7_isDigit 20 = .ok (.bipush 48, 2) := by decide +kernel
theorem dX7_isDigit_22 : decode cX7_isDigit 22 = .ok (.bipush 57, 2) := by decide +kernel
theorem dX7_isDigit_24 : decode cX7_isDigit 24 = .ok (.invokestatic 38, 3) := by decide +kernel
theorem dX7_isDigit_27 : decode cX7_isDigit 27 = .ok (.ifCond .eq 7, 3) := by decide +kernel
theorem dX7_isDigit_30 : decode cX7_isDigit 30 = .ok (.iconst 1, 1) := by decide +kernel
theorem dX7_isDigit_31 : decode cX7_isDigit 31 = .ok (.goto 4, 3) := by decide +kernel
theorem dX7_isDigit_34 : decode cX7_isDigit 34 = .ok (.iconst 0, 1) := by decide +kernel
theorem dX7_isDigit_35 : decode cX7_isDigit 35 = .ok (.ireturn, 1) := by decide +kernel
theorem dX7_reads_0 : decode cX7_reads 0 = .ok (.aload_n 0, 1) := by decide +kernel
theorem dX7_reads_1 : decode cX7_reads 1 = .ok (.getfield 145, 3) := by decide +kernel
theorem dX7_reads_4 : decode cX7_reads 4 = .ok (.istore_n 2, 1) := by decide +kernel
theorem dX7_reads_5 : decode cX7_reads 5 = .ok (.aload_n 0, 1) := by decide +kernel
theorem dX7_reads_6 : decode cX7_reads 6 = .ok (.iconst 0, 1) := by decide +kernel
theorem dX7_reads_7 : decode cX7_reads 7 = .ok (.putfield 148, 3) := by decide +kernel
theorem dX7_reads_10 : decode cX7_reads 10 = .ok (.aload_n 0, 1) := by decide +kernel
theorem dX7_reads_11 : decode cX7_reads 11 = .ok (.getfield 145, 3) := by decide +kernel
theorem dX7_reads_14 : decode cX7_reads 14 = .ok (.iload_n 2, 1) := by decide +kernel
theorem dX7_reads_15 : decode cX7_reads 15 = .ok (.isub, 1) := by decide +kernel
theorem dX7_reads_16 : decode cX7_reads 16 = .ok (.iconst 5, 1) := by decide +kernel
theorem dX7_reads_17 : decode cX7_reads 17 = .ok (.if_icmp .ge 47, 3) := by decide +kernel
theorem dX7_reads_20 : decode cX7_reads 20 = .ok (.aload_n 0, 1) := by decide +kernel
theorem dX7_reads_21 : decode cX7_reads 21 = .ok (.invokevirtual 151, 3) := by decide +kernel
theorem dX7_reads_24 : decode cX7_reads 24 = .ok (.ifCond .eq 40, 3) := by decide +kernel
theorem dX7_reads_27 : decode cX7_reads 27 = .ok (.aload_n 0, 1) := by decide +kernel
theorem dX7_reads_28 : decode cX7_reads 28 = .ok (.bipush 10, 2) := by decide +kernel
theorem dX7_reads_30 : decode cX7_reads 30 = .ok (.aload_n 0, 1) := by decide +kernel
theorem dX7_reads_31 : decode cX7_reads 31 = .ok (.getfield 148, 3) := by decide +kernel
theorem dX7_reads_34 : decode cX7_reads 34 = .ok (.imul, 1) := by decide +kernel
theorem dX7_reads_35 : decode cX7_reads 35 = .ok (.aload_n 0, 1) := by decide +kernel
theorem dX7_reads_36 : decode cX7_reads 36 = .ok (.getfield 19, 3) := by decide +kernel
theorem dX7_reads_39 : decode cX7_reads 39 = .ok (.aload_n 0, 1) := by decide +kernel
theorem dX7_reads_40 : decode cX7_reads 40 = .ok (.getfield 145, 3) := by decide +kernel
theorem dX7_reads_43 : decode cX7_reads 43 = .ok (.iaload, 1) := by decide +kernel
theorem dX7_reads_44 : decode cX7_reads 44 = .ok (.iadd, 1) := by decide +kernel
theorem dX7_reads_45 : decode cX7_reads 45 = .ok (.bipush 48, 2) := by decide +kernel
theorem dX7_reads_47 : decode cX7_reads 47 = .ok (.isub, 1) := by decide +kernel
theorem dX7_reads_48 : decode cX7_reads 48 = .ok (.putfield 148, 3) := by decide +kernel
theorem dX7_reads_51 : decode cX7_reads 51 = .ok (.aload_n 0, 1) := by decide +kernel
theorem dX7_reads_52 : decode cX7_reads 52 = .ok (.dup, 1) := by decide +kernel
theorem dX7_reads_53 : decode cX7_reads 53 = .ok (.getfield 145, 3) := by decide +kernel
theorem dX7_reads_56 : decode cX7_reads 56 = .ok (.iconst 1, 1) := by decide +kernel
theorem dX7_reads_57 : decode cX7_reads 57 = .ok (.iadd, 1) := by decide +kernel
theorem dX7_reads_58 : decode cX7_reads 58 = .ok (.putfield 145, 3) := by decide +kernel
theorem dX7_reads_61 : decode cX7_reads 61 = .ok (.goto (-51), 3) := by decide +kernel
theorem dX7_reads_64 : decode cX7_reads 64 = .ok (.aload_n 0, 1) := by decide +kernel
theorem dX7_reads_65 : decode cX7_reads 65 = .ok (.getfield 145, 3) := by decide +kernel
theorem dX7_reads_68 : decode cX7_reads 68 = .ok (.iload_n 2, 1) := by decide +kernel
theorem dX7_reads_69 : decode cX7_reads 69 = .ok (.if_icmp .le 31, 3) := by decide +kernel
theorem dX7_reads_72 : decode cX7_reads 72 = .ok (.aload_n 0, 1) := by decide +kernel
theorem dX7_reads_73 : decode cX7_reads 73 = .ok (.getfield 145, 3) := by decide +kernel
theorem dX7_reads_76 : decode cX7_reads 76 = .ok (.aload_n 0, 1) := by decide +kernel
theorem dX7_reads_77 : decode cX7_reads 77 = .ok (.getfield 142, 3) := by decide +kernel
theorem dX7_reads_80 : decode cX7_reads 80 = .ok (.if_icmp .ge 20, 3) := by decide +kernel
theorem dX7_reads_83 : decode cX7_reads 83 = .ok (.aload_n 0, 1) := by decide +kernel
theorem dX7_reads_84 : decode cX7_reads 84 = .ok (.getfield 19, 3) := by decide +kernel
theorem dX7_reads_87 : decode cX7_reads 87 = .ok (.aload_n 0, 1) := by decide +kernel
theorem dX7_reads_88 : decode cX7_reads 88 = .ok (.getfield 145, 3) := by decide +kernel
theorem dX7_reads_91 : decode cX7_reads 91 = .ok (.iaload, 1) := by decide +kernel
theorem dX7_reads_92 : decode cX7_reads 92 = .ok (.iload_n 1, 1) := by decide +kernel
theorem dX7_reads_93 : decode cX7_reads 93 = .ok (.if_icmp .ne 7, 3) := by decide +kernel
theorem dX7_reads_96 : decode cX7_reads 96 = .ok (.iconst 1, 1) := by decide +kernel
theorem dX7_reads_97 : decode cX7_reads 97 = .ok (.goto 4, 3) := by decide +kernel
theorem dX7_reads_100 : decode cX7_reads 100 = .ok (.iconst 0, 1) := by decide +kernel
theorem dX7_reads_101 : decode cX7_reads 101 = .ok (.istore_n 3, 1) := by decide +kernel
theorem dX7_reads_102 : decode cX7_reads 102 = .ok (.aload_n 0, 1) := by decide +kernel
theorem dX7_reads_103 : decode cX7_reads 103 = .ok (.dup, 1) := by decide +kernel
theorem dX7_reads_104 : decode cX7_reads 104 = .ok (.getfield 145, 3) := by decide +kernel
theorem dX7_reads_107 : decode cX7_reads 107 = .ok (.iload_n 3, 1) := by decide +kernel
theorem dX7_reads_108 : decode cX7_reads 108 = .ok (.ifCond .eq 7, 3) := by decide +kernel
theorem dX7_reads_111 : decode cX7_reads 111 = .ok (.iconst 1, 1) := by decide +kernel
theorem dX7_reads_112 : decode cX7_reads 112 = .ok (.goto 4, 3) := by decide +kernel
theorem dX7_reads_115 : decode cX7_reads 115 = .ok (.iconst 0, 1) := by decide +kernel
theorem dX7_reads_116 : decode cX7_reads 116 = .ok (.iadd, 1) := by decide +kernel
theorem dX7_reads_117 : decode cX7_reads 117 = .ok (.putfield 145, 3) := by decide +kernel
theorem dX7_reads_120 : decode cX7_reads 120 = .ok (.iload_n 3, 1) := by decide +kernel
theorem dX7_reads_121 : decode cX7_reads 121 = .ok (.ireturn, 1) := by decide +kernel
theorem dX7_readsFiring_0 : decode cX7_readsFiring 0 = .ok (.aload_n 0, 1) := by decide +kernel
theorem dX7_readsFiring_1 : decode cX7_readsFiring 1 = .ok (.bipush 32, 2) := by decide +kernel
theorem dX7_readsFiring_3 : decode cX7_readsFiring 3 = .ok (.invokevirtual 155, 3) := by decide +kernel
theorem dX7_readsFiring_6 : decode cX7_readsFiring 6 = .ok (.ifCond .ne 5, 3) := by decide +kernel
theorem dX7_readsFiring_9 : decode cX7_readsFiring 9 = .ok (.iconst 0, 1) := by decide +kernel
theorem dX7_readsFiring_10 : decode cX7_readsFiring 10 = .ok (.ireturn, 1) := by decide +kernel
theorem dX7_readsFiring_11 : decode cX7_readsFiring 11 = .ok (.aload_n 0, 1) := by decide +kernel
theorem dX7_readsFiring_12 : decode cX7_readsFiring 12 = .ok (.aload_n 0, 1) := by decide +kernel
theorem dX7_readsFiring_13 : decode cX7_readsFiring 13 = .ok (.getfield 148, 3) := by decide +kernel
theorem dX7_readsFiring_16 : decode cX7_readsFiring 16 = .ok (.putfield 158, 3) := by decide +kernel
theorem dX7_readsFiring_19 : decode cX7_readsFiring 19 = .ok (.aload_n 0, 1) := by decide +kernel
theorem dX7_readsFiring_20 : decode cX7_readsFiring 20 = .ok (.bipush 32, 2) := by decide +kernel
theorem dX7_readsFiring_22 : decode cX7_readsFiring 22 = .ok (.invokevirtual 155, 3) := by decide +kernel
theorem dX7_readsFiring_25 : decode cX7_readsFiring 25 = .ok (.ifCond .ne 5, 3) := by decide +kernel
theorem dX7_readsFiring_28 : decode cX7_readsFiring 28 = .ok (.iconst 0, 1) := by decide +kernel
theorem dX7_readsFiring_29 : decode cX7_readsFiring 29 = .ok (.ireturn, 1) := by decide +kernel
theorem dX7_readsFiring_30 : decode cX7_readsFiring 30 = .ok (.aload_n 0, 1) := by decide +kernel
theorem dX7_readsFiring_31 : decode cX7_readsFiring 31 = .ok (.aload_n 0, 1) := by decide +kernel
theorem dX7_readsFiring_32 : decode cX7_readsFiring 32 = .ok (.getfield 148, 3) := by decide +kernel
theorem dX7_readsFiring_35 : decode cX7_readsFiring 35 = .ok (.putfield 161, 3) := by decide +kernel
theorem dX7_readsFiring_38 : decode cX7_readsFiring 38 = .ok (.aload_n 0, 1) := by decide +kernel
theorem dX7_readsFiring_39 : decode cX7_readsFiring 39 = .ok (.bipush 59, 2) := by decide +kernel
theorem dX7_readsFiring_41 : decode cX7_readsFiring 41 = .ok (.invokevirtual 155, 3) := by decide +kernel
theorem dX7_readsFiring_44 : decode cX7_readsFiring 44 = .ok (.istore_n 1, 1) := by decide +kernel
theorem dX7_readsFiring_45 : decode cX7_readsFiring 45 = .ok (.aload_n 0, 1) := by decide +kernel
theorem dX7_readsFiring_46 : decode cX7_readsFiring 46 = .ok (.aload_n 0, 1) := by decide +kernel
theorem dX7_readsFiring_47 : decode cX7_readsFiring 47 = .ok (.getfield 148, 3) := by decide +kernel
theorem dX7_readsFiring_50 : decode cX7_readsFiring 50 = .ok (.putfield 164, 3) := by decide +kernel
theorem dX7_readsFiring_53 : decode cX7_readsFiring 53 = .ok (.iload_n 1, 1) := by decide +kernel
theorem dX7_readsFiring_54 : decode cX7_readsFiring 54 = .ok (.ireturn, 1) := by decide +kernel
theorem dX7_replay_0 : decode cX7_replay 0 = .ok (.aload_n 0, 1) := by decide +kernel
theorem dX7_replay_1 : decode cX7_replay 1 = .ok (.iconst 0, 1) := by decide +kernel
theorem dX7_replay_2 : decode cX7_replay 2 = .ok (.putfield 27, 3) := by decide +kernel
theorem dX7_replay_5 : decode cX7_replay 5 = .ok (.aload_n 0, 1) := by decide +kernel
theorem dX7_replay_6 : decode cX7_replay 6 = .ok (.iconst 0, 1) := by decide +kernel
theorem dX7_replay_7 : decode cX7_replay 7 = .ok (.putfield 145, 3) := by decide +kernel
theorem dX7_replay_10 : decode cX7_replay 10 = .ok (.aload_n 0, 1) := by decide +kernel
theorem dX7_replay_11 : decode cX7_replay 11 = .ok (.getfield 145, 3) := by decide +kernel
theorem dX7_replay_14 : decode cX7_replay 14 = .ok (.aload_n 0, 1) := by decide +kernel
theorem dX7_replay_15 : decode cX7_replay 15 = .ok (.getfield 142, 3) := by decide +kernel
theorem dX7_replay_18 : decode cX7_replay 18 = .ok (.if_icmp .ge 18, 3) := by decide +kernel
theorem dX7_replay_21 : decode cX7_replay 21 = .ok (.aload_n 0, 1) := by decide +kernel
theorem dX7_replay_22 : decode cX7_replay 22 = .ok (.invokevirtual 167, 3) := by decide +kernel
theorem dX7_replay_25 : decode cX7_replay 25 = .ok (.ifCond .ne (-15), 3) := by decide +kernel
theorem dX7_replay_28 : decode cX7_replay 28 = .ok (.bipush (-10), 2) := by decide +kernel
theorem dX7_replay_30 : decode cX7_replay 30 = .ok (.aload_n 0, 1) := by decide +kernel
theorem dX7_replay_31 : decode cX7_replay 31 = .ok (.getfield 145, 3) := by decide +kernel
theorem dX7_replay_34 : decode cX7_replay 34 = .ok (.isub, 1) := by decide +kernel
theorem dX7_replay_35 : decode cX7_replay 35 = .ok (.ireturn, 1) := by decide +kernel
theorem dX7_replay_36 : decode cX7_replay 36 = .ok (.iconst 0, 1) := by decide +kernel
theorem dX7_replay_37 : decode cX7_replay 37 = .ok (.istore_n 1, 1) := by decide +kernel
theorem dX7_replay_38 : decode cX7_replay 38 = .ok (.aload_n 0, 1) := by decide +kernel
theorem dX7_replay_39 : decode cX7_replay 39 = .ok (.iconst 0, 1) := by decide +kernel
theorem dX7_replay_40 : decode cX7_replay 40 = .ok (.putfield 145, 3) := by decide +kernel
theorem dX7_replay_43 : decode cX7_replay 43 = .ok (.aload_n 0, 1) := by decide +kernel
theorem dX7_replay_44 : decode cX7_replay 44 = .ok (.getfield 145, 3) := by decide +kernel
theorem dX7_replay_47 : decode cX7_replay 47 = .ok (.aload_n 0, 1) := by decide +kernel
theorem dX7_replay_48 : decode cX7_replay 48 = .ok (.getfield 142, 3) := by decide +kernel
theorem dX7_replay_51 : decode cX7_replay 51 = .ok (.if_icmp .ge 60, 3) := by decide +kernel
theorem dX7_replay_54 : decode cX7_replay 54 = .ok (.aload_n 0, 1) := by decide +kernel
theorem dX7_replay_55 : decode cX7_replay 55 = .ok (.invokevirtual 167, 3) := by decide +kernel
theorem dX7_replay_58 : decode cX7_replay 58 = .ok (.ifCond .eq 35, 3) := by decide +kernel
theorem dX7_replay_61 : decode cX7_replay 61 = .ok (.aload_n 0, 1) := by decide +kernel
theorem dX7_replay_62 : decode cX7_replay 62 = .ok (.getfield 158, 3) := by decide +kernel
theorem dX7_replay_65 : decode cX7_replay 65 = .ok (.aload_n 0, 1) := by decide +kernel
theorem dX7_replay_66 : decode cX7_replay 66 = .ok (.getfield 161, 3) := by decide +kernel
theorem dX7_replay_69 : decode cX7_replay 69 = .ok (.invokestatic 111, 3) := by decide +kernel
theorem dX7_replay_72 : decode cX7_replay 72 = .ok (.ifCond .eq 21, 3) := by decide +kernel
theorem dX7_replay_75 : decode cX7_replay 75 = .ok (.aload_n 0, 1) := by decide +kernel
theorem dX7_replay_76 : decode cX7_replay 76 = .ok (.getfield 164, 3) := by decide +kernel
theorem dX7_replay_79 : decode cX7_replay 79 = .ok (.iconst 0, 1) := by decide +kernel
theorem dX7_replay_80 : decode cX7_replay 80 = .ok (.sipush 20000, 3) := by decide +kernel
theorem dX7_replay_83 : decode cX7_replay 83 = .ok (.invokestatic 38, 3) := by decide +kernel
theorem dX7_replay_86 : decode cX7_replay 86 = .ok (.ifCond .eq 7, 3) := by decide +kernel
theorem dX7_replay_89 : decode cX7_replay 89 = .ok (.iconst 1, 1) := by decide +kernel
theorem dX7_replay_90 : decode cX7_replay 90 = .ok (.goto 4, 3) := by decide +kernel
theorem dX7_replay_93 : decode cX7_replay 93 = .ok (.iconst 0, 1) := by decide +kernel
theorem dX7_replay_94 : decode cX7_replay 94 = .ok (.istore_n 2, 1) := by decide +kernel
theorem dX7_replay_95 : decode cX7_replay 95 = .ok (.iload_n 2, 1) := by decide +kernel
theorem dX7_replay_96 : decode cX7_replay 96 = .ok (.ifCond .ne 9, 3) := by decide +kernel
theorem dX7_replay_99 : decode cX7_replay 99 = .ok (.sipush (-1000), 3) := by decide +kernel
theorem dX7_replay_102 : decode cX7_replay 102 = .ok (.iload_n 1, 1) := by decide +kernel
theorem dX7_replay_103 : decode cX7_replay 103 = .ok (.isub, 1) := by decide +kernel
theorem dX7_replay_104 : decode cX7_replay 104 = .ok (.ireturn, 1) := by decide +kernel
theorem dX7_replay_105 : decode cX7_replay 105 = .ok (.iinc 1 1, 3) := by decide +kernel
theorem dX7_replay_108 : decode cX7_replay 108 = .ok (.goto (-65), 3) := by decide +kernel
theorem dX7_replay_111 : decode cX7_replay 111 = .ok (.aload_n 0, 1) := by decide +kernel
theorem dX7_replay_112 : decode cX7_replay 112 = .ok (.invokevirtual 42, 3) := by decide +kernel
theorem dX7_replay_115 : decode cX7_replay 115 = .ok (.aload_n 0, 1) := by decide +kernel
theorem dX7_replay_116 : decode cX7_replay 116 = .ok (.iconst 0, 1) := by decide +kernel
theorem dX7_replay_117 : decode cX7_replay 117 = .ok (.putfield 145, 3) := by decide +kernel
theorem dX7_replay_120 : decode cX7_replay 120 = .ok (.aload_n 0, 1) := by decide +kernel
theorem dX7_replay_121 : decode cX7_replay 121 = .ok (.getfield 145, 3) := by decide +kernel
theorem dX7_replay_124 : decode cX7_replay 124 = .ok (.aload_n 0, 1) := by decide +kernel
theorem dX7_replay_125 : decode cX7_replay 125 = .ok (.getfield 142, 3) := by decide +kernel
theorem dX7_replay_128 : decode cX7_replay 128 = .ok (.if_icmp .ge 30, 3) := by decide +kernel
theorem dX7_replay_131 : decode cX7_replay 131 = .ok (.aload_n 0, 1) := by decide +kernel
theorem dX7_replay_132 : decode cX7_replay 132 = .ok (.invokevirtual 167, 3) := by decide +kernel
theorem dX7_replay_135 : decode cX7_replay 135 = .ok (.ifCond .eq 23, 3) := by decide +kernel
theorem dX7_replay_138 : decode cX7_replay 138 = .ok (.aload_n 0, 1) := by decide +kernel
theorem dX7_replay_139 : decode cX7_replay 139 = .ok (.aload_n 0, 1) := by decide +kernel
theorem dX7_replay_140 : decode cX7_replay 140 = .ok (.getfield 158, 3) := by decide +kernel
theorem dX7_replay_143 : decode cX7_replay 143 = .ok (.aload_n 0, 1) := by decide +kernel
theorem dX7_replay_144 : decode cX7_replay 144 = .ok (.getfield 161, 3) := by decide +kernel
theorem dX7_replay_147 : decode cX7_replay 147 = .ok (.aload_n 0, 1) := by decide +kernel
theorem dX7_replay_148 : decode cX7_replay 148 = .ok (.getfield 164, 3) := by decide +kernel
theorem dX7_replay_151 : decode cX7_replay 151 = .ok (.invokevirtual 108, 3) := by decide +kernel
theorem dX7_replay_154 : decode cX7_replay 154 = .ok (.istore_n 2, 1) := by decide +kernel
theorem dX7_replay_155 : decode cX7_replay 155 = .ok (.goto (-35), 3) := by decide +kernel
theorem dX7_replay_158 : decode cX7_replay 158 = .ok (.iload_n 1, 1) := by decide +kernel
theorem dX7_replay_159 : decode cX7_replay 159 = .ok (.ireturn, 1) := by decide +kernel
theorem dX7_mix_0 : decode cX7_mix 0 = .ok (.aload_n 0, 1) := by decide +kernel
theorem dX7_mix_1 : decode cX7_mix 1 = .ok (.ldc2_w 170, 3) := by decide +kernel
theorem dX7_mix_4 : decode cX7_mix 4 = .ok (.aload_n 0, 1) := by decide +kernel
theorem dX7_mix_5 : decode cX7_mix 5 = .ok (.getfield 172, 3) := by decide +kernel
theorem dX7_mix_8 : decode cX7_mix 8 = .ok (.lmul, 1) := by decide +kernel
theorem dX7_mix_9 : decode cX7_mix 9 = .ok (.iload_n 1, 1) := by decide +kernel
theorem dX7_mix_10 : decode cX7_mix 10 = .ok (.i2l, 1) := by decide +kernel
theorem dX7_mix_11 : decode cX7_mix 11 = .ok (.ladd, 1) := by decide +kernel
theorem dX7_mix_12 : decode cX7_mix 12 = .ok (.putfield 172, 3) := by decide +kernel
theorem dX7_mix_15 : decode cX7_mix 15 = .ok (.return_, 1) := by decide +kernel
theorem dX7_mixAll_0 : decode cX7_mixAll 0 = .ok (.iload_n 1, 1) := by decide +kernel
theorem dX7_mixAll_1 : decode cX7_mixAll 1 = .ok (.istore_n 3, 1) := by decide +kernel
theorem dX7_mixAll_2 : decode cX7_mixAll 2 = .ok (.iload_n 3, 1) := by decide +kernel
theorem dX7_mixAll_3 : decode cX7_mixAll 3 = .ok (.iload_n 1, 1) := by decide +kernel
theorem dX7_mixAll_4 : decode cX7_mixAll 4 = .ok (.iload_n 2, 1) := by decide +kernel
theorem dX7_mixAll_5 : decode cX7_mixAll 5 = .ok (.iadd, 1) := by decide +kernel
theorem dX7_mixAll_6 : decode cX7_mixAll 6 = .ok (.if_icmp .ge 19, 3) := by decide +kernel
theorem dX7_mixAll_9 : decode cX7_mixAll 9 = .ok (.aload_n 0, 1) := by decide +kernel
theorem dX7_mixAll_10 : decode cX7_mixAll 10 = .ok (.aload_n 0, 1) := by decide +kernel
theorem dX7_mixAll_11 : decode cX7_mixAll 11 = .ok (.getfield 7, 3) := by decide +kernel
theorem dX7_mixAll_14 : decode cX7_mixAll 14 = .ok (.iload_n 3, 1) := by decide +kernel
theorem dX7_mixAll_15 : decode cX7_mixAll 15 = .ok (.iaload, 1) := by decide +kernel
theorem dX7_mixAll_16 : decode cX7_mixAll 16 = .ok (.invokevirtual 176, 3) := by decide +kernel
theorem dX7_mixAll_19 : decode cX7_mixAll 19 = .ok (.iinc 3 1, 3) := by decide +kernel
theorem dX7_mixAll_22 : decode cX7_mixAll 22 = .ok (.goto (-20), 3) := by decide +kernel
theorem dX7_mixAll_25 : decode cX7_mixAll 25 = .ok (.return_, 1) := by decide +kernel
theorem dX7_digest_0 : decode cX7_digest 0 = .ok (.aload_n 0, 1) := by decide +kernel
theorem dX7_digest_1 : decode cX7_digest 1 = .ok (.iconst 0, 1) := by decide +kernel
theorem dX7_digest_2 : decode cX7_digest 2 = .ok (.putfield 27, 3) := by decide +kernel
theorem dX7_digest_5 : decode cX7_digest 5 = .ok (.aload_n 0, 1) := by decide +kernel
theorem dX7_digest_6 : decode cX7_digest 6 = .ok (.ldc2_w 179, 3) := by decide +kernel
theorem dX7_digest_9 : decode cX7_digest 9 = .ok (.putfield 172, 3) := by decide +kernel
theorem dX7_digest_12 : decode cX7_digest 12 = .ok (.aload_n 0, 1) := by decide +kernel
theorem dX7_digest_13 : decode cX7_digest 13 = .ok (.aload_n 0, 1) := by decide +kernel
theorem dX7_digest_14 : decode cX7_digest 14 = .ok (.getfield 142, 3) := by decide +kernel
theorem dX7_digest_17 : decode cX7_digest 17 = .ok (.invokevirtual 176, 3) := by decide +kernel
theorem dX7_digest_20 : decode cX7_digest 20 = .ok (.aload_n 0, 1) := by decide +kernel
theorem dX7_digest_21 : decode cX7_digest 21 = .ok (.iconst 0, 1) := by decide +kernel
theorem dX7_digest_22 : decode cX7_digest 22 = .ok (.bipush 9, 2) := by decide +kernel
theorem dX7_digest_24 : decode cX7_digest 24 = .ok (.invokevirtual 181, 3) := by decide +kernel
theorem dX7_digest_27 : decode cX7_digest 27 = .ok (.aload_n 0, 1) := by decide +kernel
theorem dX7_digest_28 : decode cX7_digest 28 = .ok (.aload_n 0, 1) := by decide +kernel
theorem dX7_digest_29 : decode cX7_digest 29 = .ok (.getfield 7, 3) := by decide +kernel
theorem dX7_digest_32 : decode cX7_digest 32 = .ok (.bipush 9, 2) := by decide +kernel
theorem dX7_digest_34 : decode cX7_digest 34 = .ok (.iaload, 1) := by decide +kernel
theorem dX7_digest_35 : decode cX7_digest 35 = .ok (.invokevirtual 176, 3) := by decide +kernel
theorem dX7_digest_38 : decode cX7_digest 38 = .ok (.aload_n 0, 1) := by decide +kernel
theorem dX7_digest_39 : decode cX7_digest 39 = .ok (.aload_n 0, 1) := by decide +kernel
theorem dX7_digest_40 : decode cX7_digest 40 = .ok (.getfield 7, 3) := by decide +kernel
theorem dX7_digest_43 : decode cX7_digest 43 = .ok (.bipush 9, 2) := by decide +kernel
theorem dX7_digest_45 : decode cX7_digest 45 = .ok (.iaload, 1) := by decide +kernel
theorem dX7_digest_46 : decode cX7_digest 46 = .ok (.aload_n 0, 1) := by decide +kernel
theorem dX7_digest_47 : decode cX7_digest 47 = .ok (.getfield 7, 3) := by decide +kernel
theorem dX7_digest_50 : decode cX7_digest 50 = .ok (.bipush 8, 2) := by decide +kernel
theorem dX7_digest_52 : decode cX7_digest 52 = .ok (.iaload, 1) := by decide +kernel
theorem dX7_digest_53 : decode cX7_digest 53 = .ok (.irem, 1) := by decide +kernel
theorem dX7_digest_54 : decode cX7_digest 54 = .ok (.invokevirtual 176, 3) := by decide +kernel
theorem dX7_digest_57 : decode cX7_digest 57 = .ok (.aload_n 0, 1) := by decide +kernel
theorem dX7_digest_58 : decode cX7_digest 58 = .ok (.aload_n 0, 1) := by decide +kernel
theorem dX7_digest_59 : decode cX7_digest 59 = .ok (.getfield 7, 3) := by decide +kernel
theorem dX7_digest_62 : decode cX7_digest 62 = .ok (.bipush 10, 2) := by decide +kernel
theorem dX7_digest_64 : decode cX7_digest 64 = .ok (.iaload, 1) := by decide +kernel
theorem dX7_digest_65 : decode cX7_digest 65 = .ok (.invokevirtual 176, 3) := by decide +kernel
theorem dX7_digest_68 : decode cX7_digest 68 = .ok (.aload_n 0, 1) := by decide +kernel
theorem dX7_digest_69 : decode cX7_digest 69 = .ok (.aload_n 0, 1) := by decide +kernel
theorem dX7_digest_70 : decode cX7_digest 70 = .ok (.getfield 7, 3) := by decide +kernel
theorem dX7_digest_73 : decode cX7_digest 73 = .ok (.bipush 11, 2) := by decide +kernel
theorem dX7_digest_75 : decode cX7_digest 75 = .ok (.iaload, 1) := by decide +kernel
theorem dX7_digest_76 : decode cX7_digest 76 = .ok (.invokevirtual 176, 3) := by decide +kernel
theorem dX7_digest_79 : decode cX7_digest 79 = .ok (.aload_n 0, 1) := by decide +kernel
theorem dX7_digest_80 : decode cX7_digest 80 = .ok (.bipush 12, 2) := by decide +kernel
theorem dX7_digest_82 : decode cX7_digest 82 = .ok (.iconst 5, 1) := by decide +kernel
theorem dX7_digest_83 : decode cX7_digest 83 = .ok (.invokevirtual 181, 3) := by decide +kernel
theorem dX7_digest_86 : decode cX7_digest 86 = .ok (.iconst 0, 1) := by decide +kernel
theorem dX7_digest_87 : decode cX7_digest 87 = .ok (.istore_n 1, 1) := by decide +kernel
theorem dX7_digest_88 : decode cX7_digest 88 = .ok (.iload_n 1, 1) := by decide +kernel
theorem dX7_digest_89 : decode cX7_digest 89 = .ok (.aload_n 0, 1) := by decide +kernel
theorem dX7_digest_90 : decode cX7_digest 90 = .ok (.getfield 7, 3) := by decide +kernel
theorem dX7_digest_93 : decode cX7_digest 93 = .ok (.bipush 8, 2) := by decide +kernel
theorem dX7_digest_95 : decode cX7_digest 95 = .ok (.iaload, 1) := by decide +kernel
theorem dX7_digest_96 : decode cX7_digest 96 = .ok (.if_icmp .ge 32, 3) := by decide +kernel
theorem dX7_digest_99 : decode cX7_digest 99 = .ok (.iconst 0, 1) := by decide +kernel
theorem dX7_digest_100 : decode cX7_digest 100 = .ok (.istore_n 2, 1) := by decide +kernel
theorem dX7_digest_101 : decode cX7_digest 101 = .ok (.iload_n 2, 1) := by decide +kernel
theorem dX7_digest_102 : decode cX7_digest 102 = .ok (.iconst 5, 1) := by decide +kernel
theorem dX7_digest_103 : decode cX7_digest 103 = .ok (.if_icmp .ge 19, 3) := by decide +kernel
theorem dX7_digest_106 : decode cX7_digest 106 = .ok (.aload_n 0, 1) := by decide +kernel
theorem dX7_digest_107 : decode cX7_digest 107 = .ok (.aload_n 0, 1) := by decide +kernel
theorem dX7_digest_108 : decode cX7_digest 108 = .ok (.iload_n 1, 1) := by decide +kernel
theorem dX7_digest_109 : decode cX7_digest 109 = .ok (.iload_n 2, 1) := by decide +kernel
theorem dX7_digest_110 : decode cX7_digest 110 = .ok (.invokevirtual 123, 3) := by decide +kernel
theorem dX7_digest_113 : decode cX7_digest 113 = .ok (.invokevirtual 176, 3) := by decide +kernel
theorem dX7_digest_116 : decode cX7_digest 116 = .ok (.iinc 2 1, 3) := by decide +kernel
theorem dX7_digest_119 : decode cX7_digest 119 = .ok (.goto (-18), 3) := by decide +kernel
theorem dX7_digest_122 : decode cX7_digest 122 = .ok (.iinc 1 1, 3) := by decide +kernel
theorem dX7_digest_125 : decode cX7_digest 125 = .ok (.goto (-37), 3) := by decide +kernel
theorem dX7_digest_128 : decode cX7_digest 128 = .ok (.aload_n 0, 1) := by decide +kernel
theorem dX7_digest_129 : decode cX7_digest 129 = .ok (.bipush 49, 2) := by decide +kernel
theorem dX7_digest_131 : decode cX7_digest 131 = .ok (.bipush 24, 2) := by decide +kernel
theorem dX7_digest_133 : decode cX7_digest 133 = .ok (.invokevirtual 181, 3) := by decide +kernel
theorem dX7_digest_136 : decode cX7_digest 136 = .ok (.aload_n 0, 1) := by decide +kernel
theorem dX7_digest_137 : decode cX7_digest 137 = .ok (.bipush 73, 2) := by decide +kernel
theorem dX7_digest_139 : decode cX7_digest 139 = .ok (.iconst 1, 1) := by decide +kernel
theorem dX7_digest_140 : decode cX7_digest 140 = .ok (.iconst 3, 1) := by decide +kernel
theorem dX7_digest_141 : decode cX7_digest 141 = .ok (.aload_n 0, 1) := by decide +kernel
theorem dX7_digest_142 : decode cX7_digest 142 = .ok (.getfield 7, 3) := by decide +kernel
theorem dX7_digest_145 : decode cX7_digest 145 = .ok (.bipush 73, 2) := by decide +kernel
theorem dX7_digest_147 : decode cX7_digest 147 = .ok (.iaload, 1) := by decide +kernel
theorem dX7_digest_148 : decode cX7_digest 148 = .ok (.imul, 1) := by decide +kernel
theorem dX7_digest_149 : decode cX7_digest 149 = .ok (.iadd, 1) := by decide +kernel
theorem dX7_digest_150 : decode cX7_digest 150 = .ok (.invokevirtual 181, 3) := by decide +kernel
theorem dX7_digest_153 : decode cX7_digest 153 = .ok (.aload_n 0, 1) := by decide +kernel
theorem dX7_digest_154 : decode cX7_digest 154 = .ok (.aload_n 0, 1) := by decide +kernel
theorem dX7_digest_155 : decode cX7_digest 155 = .ok (.getfield 31, 3) := by decide +kernel
theorem dX7_digest_158 : decode cX7_digest 158 = .ok (.invokevirtual 176, 3) := by decide +kernel
theorem dX7_digest_161 : decode cX7_digest 161 = .ok (.aload_n 0, 1) := by decide +kernel
theorem dX7_digest_162 : decode cX7_digest 162 = .ok (.getfield 172, 3) := by decide +kernel
theorem dX7_digest_165 : decode cX7_digest 165 = .ok (.lreturn, 1) := by decide +kernel
theorem dJxf58ca_isNaN_12338_0 : decode cJxf58ca_isNaN_12338 0 = .ok (.fload_n 0, 1) := by decide +kernel
theorem dJxf58ca_isNaN_12338_1 : decode cJxf58ca_isNaN_12338 1 = .ok (.fload_n 0, 1) := by decide +kernel
theorem dJxf58ca_isNaN_12338_2 : decode cJxf58ca_isNaN_12338 2 = .ok (.fcmp .l, 1) := by decide +kernel
theorem dJxf58ca_isNaN_12338_3 : decode cJxf58ca_isNaN_12338 3 = .ok (.ifCond .eq 7, 3) := by decide +kernel
theorem dJxf58ca_isNaN_12338_6 : decode cJxf58ca_isNaN_12338 6 = .ok (.iconst 1, 1) := by decide +kernel
theorem dJxf58ca_isNaN_12338_7 : decode cJxf58ca_isNaN_12338 7 = .ok (.goto 4, 3) := by decide +kernel
theorem dJxf58ca_isNaN_12338_10 : decode cJxf58ca_isNaN_12338 10 = .ok (.iconst 0, 1) := by decide +kernel
theorem dJxf58ca_isNaN_12338_11 : decode cJxf58ca_isNaN_12338 11 = .ok (.ireturn, 1) := by decide +kernel
theorem dJxf58ca_floatToIntBits_5c35a_0 : decode cJxf58ca_floatToIntBits_5c35a 0 = .ok (.fload_n 0, 1) := by decide +kernel
theorem dJxf58ca_floatToIntBits_5c35a_1 : decode cJxf58ca_floatToIntBits_5c35a 1 = .ok (.invokestatic 59, 3) := by decide +kernel
theorem dJxf58ca_floatToIntBits_5c35a_4 : decode cJxf58ca_floatToIntBits_5c35a 4 = .ok (.ifCond .ne 8, 3) := by decide +kernel
theorem dJxf58ca_floatToIntBits_5c35a_7 : decode cJxf58ca_floatToIntBits_5c35a 7 = .ok (.fload_n 0, 1) := by decide +kernel
theorem dJxf58ca_floatToIntBits_5c35a_8 : decode cJxf58ca_floatToIntBits_5c35a 8 = .ok (.invokestatic 74, 3) := by decide +kernel
theorem dJxf58ca_floatToIntBits_5c35a_11 : decode cJxf58ca_floatToIntBits_5c35a 11 = .ok (.ireturn, 1) := by decide +kernel
theorem dJxf58ca_floatToIntBits_5c35a_12 : decode cJxf58ca_floatToIntBits_5c35a 12 = .ok (.ldc 77, 2) := by decide +kernel
theorem dJxf58ca_floatToIntBits_5c35a_14 : decode cJxf58ca_floatToIntBits_5c35a 14 = .ok (.ireturn, 1) := by decide +kernel
theorem dJ9_floorDiv_7cf53_0 : decode cJ9_floorDiv_7cf53 0 = .ok (.iload_n 0, 1) := by decide +kernel
theorem dJ9_floorDiv_7cf53_1 : decode cJ9_floorDiv_7cf53 1 = .ok (.iload_n 1, 1) := by decide +kernel
theorem dJ9_floorDiv_7cf53_2 : decode cJ9_floorDiv_7cf53 2 = .ok (.idiv, 1) := by decide +kernel
theorem dJ9_floorDiv_7cf53_3 : decode cJ9_floorDiv_7cf53 3 = .ok (.istore_n 2, 1) := by decide +kernel
theorem dJ9_floorDiv_7cf53_4 : decode cJ9_floorDiv_7cf53 4 = .ok (.iload_n 0, 1) := by decide +kernel
theorem dJ9_floorDiv_7cf53_5 : decode cJ9_floorDiv_7cf53 5 = .ok (.iload_n 1, 1) := by decide +kernel
theorem dJ9_floorDiv_7cf53_6 : decode cJ9_floorDiv_7cf53 6 = .ok (.ixor, 1) := by decide +kernel
theorem dJ9_floorDiv_7cf53_7 : decode cJ9_floorDiv_7cf53 7 = .ok (.ifCond .ge 14, 3) := by decide +kernel
theorem dJ9_floorDiv_7cf53_10 : decode cJ9_floorDiv_7cf53 10 = .ok (.iload_n 2, 1) := by decide +kernel
theorem dJ9_floorDiv_7cf53_11 : decode cJ9_floorDiv_7cf53 11 = .ok (.iload_n 1, 1) := by decide +kernel
theorem dJ9_floorDiv_7cf53_12 : decode cJ9_floorDiv_7cf53 12 = .ok (.imul, 1) := by decide +kernel
theorem dJ9_floorDiv_7cf53_13 : decode cJ9_floorDiv_7cf53 13 = .ok (.iload_n 0, 1) := by decide +kernel
theorem dJ9_floorDiv_7cf53_14 : decode cJ9_floorDiv_7cf53 14 = .ok (.if_icmp .eq 7, 3) := by decide +kernel
theorem dJ9_floorDiv_7cf53_17 : decode cJ9_floorDiv_7cf53 17 = .ok (.iload_n 2, 1) := by decide +kernel
theorem dJ9_floorDiv_7cf53_18 : decode cJ9_floorDiv_7cf53 18 = .ok (.iconst 1, 1) := by decide +kernel
theorem dJ9_floorDiv_7cf53_19 : decode cJ9_floorDiv_7cf53 19 = .ok (.isub, 1) := by decide +kernel
theorem dJ9_floorDiv_7cf53_20 : decode cJ9_floorDiv_7cf53 20 = .ok (.ireturn, 1) := by decide +kernel
theorem dJ9_floorDiv_7cf53_21 : decode cJ9_floorDiv_7cf53 21 = .ok (.iload_n 2, 1) := by decide +kernel
theorem dJ9_floorDiv_7cf53_22 : decode cJ9_floorDiv_7cf53 22 = .ok (.ireturn, 1) := by decide +kernel
theorem dJ9_max_7cf53_0 : decode cJ9_max_7cf53 0 = .ok (.iload_n 0, 1) := by decide +kernel
theorem dJ9_max_7cf53_1 : decode cJ9_max_7cf53 1 = .ok (.iload_n 1, 1) := by decide +kernel
theorem dJ9_max_7cf53_2 : decode cJ9_max_7cf53 2 = .ok (.if_icmp .lt 7, 3) := by decide +kernel
theorem dJ9_max_7cf53_5 : decode cJ9_max_7cf53 5 = .ok (.iload_n 0, 1) := by decide +kernel
theorem dJ9_max_7cf53_6 : decode cJ9_max_7cf53 6 = .ok (.goto 4, 3) := by decide +kernel
theorem dJ9_max_7cf53_9 : decode cJ9_max_7cf53 9 = .ok (.iload_n 1, 1) := by decide +kernel
theorem dJ9_max_7cf53_10 : decode cJ9_max_7cf53 10 = .ok (.ireturn, 1) := by decide +kernel
theorem dJ9_min_7cf53_0 : decode cJ9_min_7cf53 0 = .ok (.iload_n 0, 1) := by decide +kernel
theorem dJ9_min_7cf53_1 : decode cJ9_min_7cf53 1 = .ok (.iload_n 1, 1) := by decide +kernel
theorem dJ9_min_7cf53_2 : decode cJ9_min_7cf53 2 = .ok (.if_icmp .gt 7, 3) := by decide +kernel
theorem dJ9_min_7cf53_5 : decode cJ9_min_7cf53 5 = .ok (.iload_n 0, 1) := by decide +kernel
theorem dJ9_min_7cf53_6 : decode cJ9_min_7cf53 6 = .ok (.goto 4, 3) := by decide +kernel
theorem dJ9_min_7cf53_9 : decode cJ9_min_7cf53 9 = .ok (.iload_n 1, 1) := by decide +kernel
theorem dJ9_min_7cf53_10 : decode cJ9_min_7cf53 10 = .ok (.ireturn, 1) := by decide +kernel
theorem dL_begin_0 : decode cL_begin 0 = .ok (.aload_n 2, 1) := by decide +kernel
theorem dL_begin_1 : decode cL_begin 1 = .ok (.iconst 0, 1) := by decide +kernel
theorem dL_begin_2 : decode cL_begin 2 = .ok (.aload_n 0, 1) := by decide +kernel
theorem dL_begin_3 : decode cL_begin 3 = .ok (.iload_n 1, 1) := by decide +kernel
theorem dL_begin_4 : decode cL_begin 4 = .ok (.invokevirtual 7, 3) := by decide +kernel
theorem dL_begin_7 : decode cL_begin 7 = .ok (.i2l, 1) := by decide +kernel
theorem dL_begin_8 : decode cL_begin 8 = .ok (.lastore, 1) := by decide +kernel
theorem dL_begin_9 : decode cL_begin 9 = .ok (.goto 6, 3) := by decide +kernel
theorem dL_begin_12 : decode cL_begin 12 = .ok (.astore_n 3, 1) := by decide +kernel
theorem dL_begin_13 : decode cL_begin 13 = .ok (.iconst 1, 1) := by decide +kernel
theorem dL_begin_14 : decode cL_begin 14 = .ok (.ireturn, 1) := by decide +kernel
theorem dL_begin_15 : decode cL_begin 15 = .ok (.iconst 0, 1) := by decide +kernel
theorem dL_begin_16 : decode cL_begin 16 = .ok (.ireturn, 1) := by decide +kernel
theorem dL_set_0 : decode cL_set 0 = .ok (.aload_n 3, 1) := by decide +kernel
theorem dL_set_1 : decode cL_set 1 = .ok (.iconst 0, 1) := by decide +kernel
theorem dL_set_2 : decode cL_set 2 = .ok (.aload_n 0, 1) := by decide +kernel
theorem dL_set_3 : decode cL_set 3 = .ok (.iload_n 1, 1) := by decide +kernel
theorem dL_set_4 : decode cL_set 4 = .ok (.iload_n 2, 1) := by decide +kernel
theorem dL_set_5 : decode cL_set 5 = .ok (.invokevirtual 15, 3) := by decide +kernel
theorem dL_set_8 : decode cL_set 8 = .ok (.i2l, 1) := by decide +kernel
theorem dL_set_9 : decode cL_set 9 = .ok (.lastore, 1) := by decide +kernel
theorem dL_set_10 : decode cL_set 10 = .ok (.goto 7, 3) := by decide +kernel
theorem dL_set_13 : decode cL_set 13 = .ok (.astore 4, 2) := by decide +kernel
theorem dL_set_15 : decode cL_set 15 = .ok (.iconst 1, 1) := by decide +kernel
theorem dL_set_16 : decode cL_set 16 = .ok (.ireturn, 1) := by decide +kernel
theorem dL_set_17 : decode cL_set 17 = .ok (.iconst 0, 1) := by decide +kernel
theorem dL_set_18 : decode cL_set 18 = .ok (.ireturn, 1) := by decide +kernel
theorem dL_value_0 : decode cL_value 0 = .ok (.aload_n 2, 1) := by decide +kernel
theorem dL_value_1 : decode cL_value 1 = .ok (.iconst 0, 1) := by decide +kernel
theorem dL_value_2 : decode cL_value 2 = .ok (.aload_n 0, 1) := by decide +kernel
theorem dL_value_3 : decode cL_value 3 = .ok (.iload_n 1, 1) := by decide +kernel
theorem dL_value_4 : decode cL_value 4 = .ok (.invokevirtual 19, 3) := by decide +kernel
theorem dL_value_7 : decode cL_value 7 = .ok (.i2l, 1) := by decide +kernel
theorem dL_value_8 : decode cL_value 8 = .ok (.lastore, 1) := by decide +kernel
theorem dL_value_9 : decode cL_value 9 = .ok (.goto 6, 3) := by decide +kernel
theorem dL_value_12 : decode cL_value 12 = .ok (.astore_n 3, 1) := by decide +kernel
theorem dL_value_13 : decode cL_value 13 = .ok (.iconst 1, 1) := by decide +kernel
theorem dL_value_14 : decode cL_value 14 = .ok (.ireturn, 1) := by decide +kernel
theorem dL_value_15 : decode cL_value 15 = .ok (.iconst 0, 1) := by decide +kernel
theorem dL_value_16 : decode cL_value 16 = .ok (.ireturn, 1) := by decide +kernel
theorem dL_teach_0 : decode cL_teach 0 = .ok (.aload 4, 2) := by decide +kernel
theorem dL_teach_2 : decode cL_teach 2 = .ok (.iconst 0, 1) := by decide +kernel
theorem dL_teach_3 : decode cL_teach 3 = .ok (.aload_n 0, 1) := by decide +kernel
theorem dL_teach_4 : decode cL_teach 4 = .ok (.iload_n 1, 1) := by decide +kernel
theorem dL_teach_5 : decode cL_teach 5 = .ok (.iload_n 2, 1) := by decide +kernel
theorem dL_teach_6 : decode cL_teach 6 = .ok (.iload_n 3, 1) := by decide +kernel
theorem dL_teach_7 : decode cL_teach 7 = .ok (.invokevirtual 22, 3) := by decide +kernel
theorem dL_teach_10 : decode cL_teach 10 = .ok (.i2l, 1) := by decide +kernel
theorem dL_teach_11 : decode cL_teach 11 = .ok (.lastore, 1) := by decide +kernel
theorem dL_teach_12 : decode cL_teach 12 = .ok (.goto 11, 3) := by decide +kernel
theorem dL_teach_15 : decode cL_teach 15 = .ok (.astore 5, 2) := by decide +kernel
theorem dL_teach_17 : decode cL_teach 17 = .ok (.iconst 1, 1) := by decide +kernel
theorem dL_teach_18 : decode cL_teach 18 = .ok (.ireturn, 1) := by decide +kernel
theorem dL_teach_19 : decode cL_teach 19 = .ok (.astore 5, 2) := by decide +kernel
theorem dL_teach_21 : decode cL_teach 21 = .ok (.iconst 2, 1) := by decide +kernel
theorem dL_teach_22 : decode cL_teach 22 = .ok (.ireturn, 1) := by decide +kernel
theorem dL_teach_23 : decode cL_teach 23 = .ok (.iconst 0, 1) := by decide +kernel
theorem dL_teach_24 : decode cL_teach 24 = .ok (.ireturn, 1) := by decide +kernel
theorem dL_seed_0 : decode cL_seed 0 = .ok (.aload_n 2, 1) := by decide +kernel
theorem dL_seed_1 : decode cL_seed 1 = .ok (.iconst 0, 1) := by decide +kernel
theorem dL_seed_2 : decode cL_seed 2 = .ok (.aload_n 0, 1) := by decide +kernel
theorem dL_seed_3 : decode cL_seed 3 = .ok (.iload_n 1, 1) := by decide +kernel
theorem dL_seed_4 : decode cL_seed 4 = .ok (.invokevirtual 28, 3) := by decide +kernel
theorem dL_seed_7 : decode cL_seed 7 = .ok (.i2l, 1) := by decide +kernel
theorem dL_seed_8 : decode cL_seed 8 = .ok (.lastore, 1) := by decide +kernel
theorem dL_seed_9 : decode cL_seed 9 = .ok (.goto 6, 3) := by decide +kernel
theorem dL_seed_12 : decode cL_seed 12 = .ok (.astore_n 3, 1) := by decide +kernel
theorem dL_seed_13 : decode cL_seed 13 = .ok (.iconst 1, 1) := by decide +kernel
theorem dL_seed_14 : decode cL_seed 14 = .ok (.ireturn, 1) := by decide +kernel
theorem dL_seed_15 : decode cL_seed 15 = .ok (.iconst 0, 1) := by decide +kernel
theorem dL_seed_16 : decode cL_seed 16 = .ok (.ireturn, 1) := by decide +kernel
theorem dL_fire_0 : decode cL_fire 0 = .ok (.aload 4, 2) := by decide +kernel
theorem dL_fire_2 : decode cL_fire 2 = .ok (.iconst 0, 1) := by decide +kernel
theorem dL_fire_3 : decode cL_fire 3 = .ok (.aload_n 0, 1) := by decide +kernel
theorem dL_fire_4 : decode cL_fire 4 = .ok (.iload_n 1, 1) := by decide +kernel
theorem dL_fire_5 : decode cL_fire 5 = .ok (.iload_n 2, 1) := by decide +kernel
theorem dL_fire_6 : decode cL_fire 6 = .ok (.iload_n 3, 1) := by decide +kernel
theorem dL_fire_7 : decode cL_fire 7 = .ok (.invokevirtual 31, 3) := by decide +kernel
theorem dL_fire_10 : decode cL_fire 10 = .ok (.i2l, 1) := by decide +kernel
theorem dL_fire_11 : decode cL_fire 11 = .ok (.lastore, 1) := by decide +kernel
theorem dL_fire_12 : decode cL_fire 12 = .ok (.goto 7, 3) := by decide +kernel
theorem dL_fire_15 : decode cL_fire 15 = .ok (.astore 5, 2) := by decide +kernel
theorem dL_fire_17 : decode cL_fire 17 = .ok (.iconst 1, 1) := by decide +kernel
theorem dL_fire_18 : decode cL_fire 18 = .ok (.ireturn, 1) := by decide +kernel
theorem dL_fire_19 : decode cL_fire 19 = .ok (.iconst 0, 1) := by decide +kernel
theorem dL_fire_20 : decode cL_fire 20 = .ok (.ireturn, 1) := by decide +kernel
theorem dL_drive_0 : decode cL_drive 0 = .ok (.aload 5, 2) := by decide +kernel
theorem dL_drive_2 : decode cL_drive 2 = .ok (.iconst 0, 1) := by decide +kernel
theorem dL_drive_3 : decode cL_drive 3 = .ok (.aload_n 0, 1) := by decide +kernel
theorem dL_drive_4 : decode cL_drive 4 = .ok (.iload_n 1, 1) := by decide +kernel
theorem dL_drive_5 : decode cL_drive 5 = .ok (.iload_n 2, 1) := by decide +kernel
theorem dL_drive_6 : decode cL_drive 6 = .ok (.iload_n 3, 1) := by decide +kernel
theorem dL_drive_7 : decode cL_drive 7 = .ok (.iload 4, 2) := by decide +kernel
theorem dL_drive_9 : decode cL_drive 9 = .ok (.invokevirtual 34, 3) := by decide +kernel
theorem dL_drive_12 : decode cL_drive 12 = .ok (.i2l, 1) := by decide +kernel
theorem dL_drive_13 : decode cL_drive 13 = .ok (.lastore, 1) := by decide +kernel
theorem dL_drive_14 : decode cL_drive 14 = .ok (.goto 7, 3) := by decide +kernel
theorem dL_drive_17 : decode cL_drive 17 = .ok (.astore 6, 2) := by decide +kernel
theorem dL_drive_19 : decode cL_drive 19 = .ok (.iconst 1, 1) := by decide +kernel
theorem dL_drive_20 : decode cL_drive 20 = .ok (.ireturn, 1) := by decide +kernel
theorem dL_drive_21 : decode cL_drive 21 = .ok (.iconst 0, 1) := by decide +kernel
theorem dL_drive_22 : decode cL_drive 22 = .ok (.ireturn, 1) := by decide +kernel
theorem dL_cylinder_0 : decode cL_cylinder 0 = .ok (.aload_n 3, 1) := by decide +kernel
theorem dL_cylinder_1 : decode cL_cylinder 1 = .ok (.iconst 0, 1) := by decide +kernel
theorem dL_cylinder_2 : decode cL_cylinder 2 = .ok (.aload_n 0, 1) := by decide +kernel
theorem dL_cylinder_3 : decode cL_cylinder 3 = .ok (.iload_n 1, 1) := by decide +kernel
theorem dL_cylinder_4 : decode cL_cylinder 4 = .ok (.iload_n 2, 1) := by decide +kernel
theorem dL_cylinder_5 : decode cL_cylinder 5 = .ok (.invokevirtual 38, 3) := by decide +kernel
theorem dL_cylinder_8 : decode cL_cylinder 8 = .ok (.i2l, 1) := by decide +kernel
theorem dL_cylinder_9 : decode cL_cylinder 9 = .ok (.lastore, 1) := by decide +kernel
theorem dL_cylinder_10 : decode cL_cylinder 10 = .ok (.goto 11, 3) := by decide +kernel
theorem dL_cylinder_13 : decode cL_cylinder 13 = .ok (.astore 4, 2) := by decide +kernel
theorem dL_cylinder_15 : decode cL_cylinder 15 = .ok (.iconst 1, 1) := by decide +kernel
theorem dL_cylinder_16 : decode cL_cylinder 16 = .ok (.ireturn, 1) := by decide +kernel
theorem dL_cylinder_17 : decode cL_cylinder 17 = .ok (.astore 4, 2) := by decide +kernel
theorem dL_cylinder_19 : decode cL_cylinder 19 = .ok (.iconst 2, 1) := by decide +kernel
theorem dL_cylinder_20 : decode cL_cylinder 20 = .ok (.ireturn, 1) := by decide +kernel
theorem dL_cylinder_21 : decode cL_cylinder 21 = .ok (.iconst 0, 1) := by decide +kernel
theorem dL_cylinder_22 : decode cL_cylinder 22 = .ok (.ireturn, 1) := by decide +kernel
theorem dL_learned_0 : decode cL_learned 0 = .ok (.aload_n 3, 1) := by decide +kernel
theorem dL_learned_1 : decode cL_learned 1 = .ok (.iconst 0, 1) := by decide +kernel
theorem dL_learned_2 : decode cL_learned 2 = .ok (.aload_n 0, 1) := by decide +kernel
theorem dL_learned_3 : decode cL_learned 3 = .ok (.iload_n 1, 1) := by decide +kernel
theorem dL_learned_4 : decode cL_learned 4 = .ok (.iload_n 2, 1) := by decide +kernel
theorem dL_learned_5 : decode cL_learned 5 = .ok (.invokevirtual 41, 3) := by decide +kernel
theorem dL_learned_8 : decode cL_learned 8 = .ok (.i2l, 1) := by decide +kernel
theorem dL_learned_9 : decode cL_learned 9 = .ok (.lastore, 1) := by decide +kernel
theorem dL_learned_10 : decode cL_learned 10 = .ok (.goto 7, 3) := by decide +kernel
theorem dL_learned_13 : decode cL_learned 13 = .ok (.astore 4, 2) := by decide +kernel
theorem dL_learned_15 : decode cL_learned 15 = .ok (.iconst 1, 1) := by decide +kernel
theorem dL_learned_16 : decode cL_learned 16 = .ok (.ireturn, 1) := by decide +kernel
theorem dL_learned_17 : decode cL_learned 17 = .ok (.iconst 0, 1) := by decide +kernel
theorem dL_learned_18 : decode cL_learned 18 = .ok (.ireturn, 1) := by decide +kernel
theorem dL_angle_0 : decode cL_angle 0 = .ok (.aload 5, 2) := by decide +kernel
theorem dL_angle_2 : decode cL_angle 2 = .ok (.iconst 0, 1) := by decide +kernel
theorem dL_angle_3 : decode cL_angle 3 = .ok (.aload_n 0, 1) := by decide +kernel
theorem dL_angle_4 : decode cL_angle 4 = .ok (.iload_n 1, 1) := by decide +kernel
theorem dL_angle_5 : decode cL_angle 5 = .ok (.iload_n 2, 1) := by decide +kernel
theorem dL_angle_6 : decode cL_angle 6 = .ok (.iload_n 3, 1) := by decide +kernel
theorem dL_angle_7 : decode cL_angle 7 = .ok (.iload 4, 2) := by decide +kernel
theorem dL_angle_9 : decode cL_angle 9 = .ok (.invokevirtual 44, 3) := by decide +kernel
theorem dL_angle_12 : decode cL_angle 12 = .ok (.i2l, 1) := by decide +kernel
theorem dL_angle_13 : decode cL_angle 13 = .ok (.lastore, 1) := by decide +kernel
theorem dL_angle_14 : decode cL_angle 14 = .ok (.goto 11, 3) := by decide +kernel
theorem dL_angle_17 : decode cL_angle 17 = .ok (.astore 6, 2) := by decide +kernel
theorem dL_angle_19 : decode cL_angle 19 = .ok (.iconst 1, 1) := by decide +kernel
theorem dL_angle_20 : decode cL_angle 20 = .ok (.ireturn, 1) := by decide +kernel
theorem dL_angle_21 : decode cL_angle 21 = .ok (.astore 6, 2) := by decide +kernel
theorem dL_angle_23 : decode cL_angle 23 = .ok (.iconst 2, 1) := by decide +kernel
theorem dL_angle_24 : decode cL_angle 24 = .ok (.ireturn, 1) := by decide +kernel
theorem dL_angle_25 : decode cL_angle 25 = .ok (.iconst 0, 1) := by decide +kernel
theorem dL_angle_26 : decode cL_angle 26 = .ok (.ireturn, 1) := by decide +kernel
theorem dL_status_0 : decode cL_status 0 = .ok (.aload_n 2, 1) := by decide +kernel
theorem dL_status_1 : decode cL_status 1 = .ok (.iconst 0, 1) := by decide +kernel
theorem dL_status_2 : decode cL_status 2 = .ok (.aload_n 0, 1) := by decide +kernel
theorem dL_status_3 : decode cL_status 3 = .ok (.iload_n 1, 1) := by decide +kernel
theorem dL_status_4 : decode cL_status 4 = .ok (.invokevirtual 48, 3) := by decide +kernel
theorem dL_status_7 : decode cL_status 7 = .ok (.i2l, 1) := by decide +kernel
theorem dL_status_8 : decode cL_status 8 = .ok (.lastore, 1) := by decide +kernel
theorem dL_status_9 : decode cL_status 9 = .ok (.goto 6, 3) := by decide +kernel
theorem dL_status_12 : decode cL_status 12 = .ok (.astore_n 3, 1) := by decide +kernel
theorem dL_status_13 : decode cL_status 13 = .ok (.iconst 1, 1) := by decide +kernel
theorem dL_status_14 : decode cL_status 14 = .ok (.ireturn, 1) := by decide +kernel
theorem dL_status_15 : decode cL_status 15 = .ok (.iconst 0, 1) := by decide +kernel
theorem dL_status_16 : decode cL_status 16 = .ok (.ireturn, 1) := by decide +kernel
theorem dL_octane_0 : decode cL_octane 0 = .ok (.aload_n 2, 1) := by decide +kernel
theorem dL_octane_1 : decode cL_octane 1 = .ok (.iconst 0, 1) := by decide +kernel
theorem dL_octane_2 : decode cL_octane 2 = .ok (.aload_n 0, 1) := by decide +kernel
theorem dL_octane_3 : decode cL_octane 3 = .ok (.iload_n 1, 1) := by decide +kernel
theorem dL_octane_4 : decode cL_octane 4 = .ok (.invokevirtual 51, 3) := by decide +kernel
theorem dL_octane_7 : decode cL_octane 7 = .ok (.dastore, 1) := by decide +kernel
theorem dL_octane_8 : decode cL_octane 8 = .ok (.goto 6, 3) := by decide +kernel
theorem dL_octane_11 : decode cL_octane 11 = .ok (.astore_n 3, 1) := by decide +kernel
theorem dL_octane_12 : decode cL_octane 12 = .ok (.iconst 1, 1) := by decide +kernel
theorem dL_octane_13 : decode cL_octane 13 = .ok (.ireturn, 1) := by decide +kernel
theorem dL_octane_14 : decode cL_octane 14 = .ok (.iconst 0, 1) := by decide +kernel
theorem dL_octane_15 : decode cL_octane 15 = .ok (.ireturn, 1) := by decide +kernel
theorem dL_extreme_0 : decode cL_extreme 0 = .ok (.aload 4, 2) := by decide +kernel
theorem dL_extreme_2 : decode cL_extreme 2 = .ok (.iconst 0, 1) := by decide +kernel
theorem dL_extreme_3 : decode cL_extreme 3 = .ok (.aload_n 0, 1) := by decide +kernel
theorem dL_extreme_4 : decode cL_extreme 4 = .ok (.iload_n 1, 1) := by decide +kernel
theorem dL_extreme_5 : decode cL_extreme 5 = .ok (.iload_n 2, 1) := by decide +kernel
theorem dL_extreme_6 : decode cL_extreme 6 = .ok (.iload_n 3, 1) := by decide +kernel
theorem dL_extreme_7 : decode cL_extreme 7 = .ok (.invokevirtual 55, 3) := by decide +kernel
theorem dL_extreme_10 : decode cL_extreme 10 = .ok (.i2l, 1) := by decide +kernel
theorem dL_extreme_11 : decode cL_extreme 11 = .ok (.lastore, 1) := by decide +kernel
theorem dL_extreme_12 : decode cL_extreme 12 = .ok (.goto 7, 3) := by decide +kernel
theorem dL_extreme_15 : decode cL_extreme 15 = .ok (.astore 5, 2) := by decide +kernel
theorem dL_extreme_17 : decode cL_extreme 17 = .ok (.iconst 1, 1) := by decide +kernel
theorem dL_extreme_18 : decode cL_extreme 18 = .ok (.ireturn, 1) := by decide +kernel
theorem dL_extreme_19 : decode cL_extreme 19 = .ok (.iconst 0, 1) := by decide +kernel
theorem dL_extreme_20 : decode cL_extreme 20 = .ok (.ireturn, 1) := by decide +kernel
theorem dL_event_0 : decode cL_event 0 = .ok (.aload_n 3, 1) := by decide +kernel
theorem dL_event_1 : decode cL_event 1 = .ok (.iconst 0, 1) := by decide +kernel
theorem dL_event_2 : decode cL_event 2 = .ok (.aload_n 0, 1) := by decide +kernel
theorem dL_event_3 : decode cL_event 3 = .ok (.iload_n 1, 1) := by decide +kernel
theorem dL_event_4 : decode cL_event 4 = .ok (.iload_n 2, 1) := by decide +kernel
theorem dL_event_5 : decode cL_event 5 = .ok (.invokevirtual 59, 3) := by decide +kernel
theorem dL_event_8 : decode cL_event 8 = .ok (.i2l, 1) := by decide +kernel
theorem dL_event_9 : decode cL_event 9 = .ok (.lastore, 1) := by decide +kernel
theorem dL_event_10 : decode cL_event 10 = .ok (.goto 11, 3) := by decide +kernel
theorem dL_event_13 : decode cL_event 13 = .ok (.astore 4, 2) := by decide +kernel
theorem dL_event_15 : decode cL_event 15 = .ok (.iconst 1, 1) := by decide +kernel
theorem dL_event_16 : decode cL_event 16 = .ok (.ireturn, 1) := by decide +kernel
theorem dL_event_17 : decode cL_event 17 = .ok (.astore 4, 2) := by decide +kernel
theorem dL_event_19 : decode cL_event 19 = .ok (.iconst 2, 1) := by decide +kernel
theorem dL_event_20 : decode cL_event 20 = .ok (.ireturn, 1) := by decide +kernel
theorem dL_event_21 : decode cL_event 21 = .ok (.iconst 0, 1) := by decide +kernel
theorem dL_event_22 : decode cL_event 22 = .ok (.ireturn, 1) := by decide +kernel
theorem dL_eventsOf_0 : decode cL_eventsOf 0 = .ok (.aload_n 2, 1) := by decide +kernel
theorem dL_eventsOf_1 : decode cL_eventsOf 1 = .ok (.iconst 0, 1) := by decide +kernel
theorem dL_eventsOf_2 : decode cL_eventsOf 2 = .ok (.aload_n 0, 1) := by decide +kernel
theorem dL_eventsOf_3 : decode cL_eventsOf 3 = .ok (.iload_n 1, 1) := by decide +kernel
theorem dL_eventsOf_4 : decode cL_eventsOf 4 = .ok (.invokevirtual 62, 3) := by decide +kernel
theorem dL_eventsOf_7 : decode cL_eventsOf 7 = .ok (.i2l, 1) := by decide +kernel
theorem dL_eventsOf_8 : decode cL_eventsOf 8 = .ok (.lastore, 1) := by decide +kernel
theorem dL_eventsOf_9 : decode cL_eventsOf 9 = .ok (.goto 6, 3) := by decide +kernel
theorem dL_eventsOf_12 : decode cL_eventsOf 12 = .ok (.astore_n 3, 1) := by decide +kernel
theorem dL_eventsOf_13 : decode cL_eventsOf 13 = .ok (.iconst 1, 1) := by decide +kernel
theorem dL_eventsOf_14 : decode cL_eventsOf 14 = .ok (.ireturn, 1) := by decide +kernel
theorem dL_eventsOf_15 : decode cL_eventsOf 15 = .ok (.iconst 0, 1) := by decide +kernel
theorem dL_eventsOf_16 : decode cL_eventsOf 16 = .ok (.ireturn, 1) := by decide +kernel
theorem dL_limit_0 : decode cL_limit 0 = .ok (.aload 5, 2) := by decide +kernel
theorem dL_limit_2 : decode cL_limit 2 = .ok (.iconst 0, 1) := by decide +kernel
theorem dL_limit_3 : decode cL_limit 3 = .ok (.aload_n 0, 1) := by decide +kernel
theorem dL_limit_4 : decode cL_limit 4 = .ok (.iload_n 1, 1) := by decide +kernel
theorem dL_limit_5 : decode cL_limit 5 = .ok (.iload_n 2, 1) := by decide +kernel
theorem dL_limit_6 : decode cL_limit 6 = .ok (.iload_n 3, 1) := by decide +kernel
theorem dL_limit_7 : decode cL_limit 7 = .ok (.iload 4, 2) := by decide +kernel
theorem dL_limit_9 : decode cL_limit 9 = .ok (.invokevirtual 65, 3) := by decide +kernel
theorem dL_limit_12 : decode cL_limit 12 = .ok (.i2l, 1) := by decide +kernel
theorem dL_limit_13 : decode cL_limit 13 = .ok (.lastore, 1) := by decide +kernel
theorem dL_limit_14 : decode cL_limit 14 = .ok (.goto 11, 3) := by decide +kernel
theorem dL_limit_17 : decode cL_limit 17 = .ok (.astore 6, 2) := by decide +kernel
theorem dL_limit_19 : decode cL_limit 19 = .ok (.iconst 1, 1) := by decide +kernel
theorem dL_limit_20 : decode cL_limit 20 = .ok (.ireturn, 1) := by decide +kernel
theorem dL_limit_21 : decode cL_limit 21 = .ok (.astore 6, 2) := by decide +kernel
theorem dL_limit_23 : decode cL_limit 23 = .ok (.iconst 2, 1) := by decide +kernel
theorem dL_limit_24 : decode cL_limit 24 = .ok (.ireturn, 1) := by decide +kernel
theorem dL_limit_25 : decode cL_limit 25 = .ok (.iconst 0, 1) := by decide +kernel
theorem dL_limit_26 : decode cL_limit 26 = .ok (.ireturn, 1) := by decide +kernel
theorem dL_quietAfter_0 : decode cL_quietAfter 0 = .ok (.aload 4, 2) := by decide +kernel
theorem dL_quietAfter_2 : decode cL_quietAfter 2 = .ok (.iconst 0, 1) := by decide +kernel
theorem dL_quietAfter_3 : decode cL_quietAfter 3 = .ok (.aload_n 0, 1) := by decide +kernel
theorem dL_quietAfter_4 : decode cL_quietAfter 4 = .ok (.iload_n 1, 1) := by decide +kernel
theorem dL_quietAfter_5 : decode cL_quietAfter 5 = .ok (.iload_n 2, 1) := by decide +kernel
theorem dL_quietAfter_6 : decode cL_quietAfter 6 = .ok (.iload_n 3, 1) := by decide +kernel
theorem dL_quietAfter_7 : decode cL_quietAfter 7 = .ok (.invokevirtual 68, 3) := by decide +kernel
theorem dL_quietAfter_10 : decode cL_quietAfter 10 = .ok (.i2l, 1) := by decide +kernel
theorem dL_quietAfter_11 : decode cL_quietAfter 11 = .ok (.lastore, 1) := by decide +kernel
theorem dL_quietAfter_12 : decode cL_quietAfter 12 = .ok (.goto 7, 3) := by decide +kernel
theorem dL_quietAfter_15 : decode cL_quietAfter 15 = .ok (.astore 5, 2) := by decide +kernel
theorem dL_quietAfter_17 : decode cL_quietAfter 17 = .ok (.iconst 1, 1) := by decide +kernel
theorem dL_quietAfter_18 : decode cL_quietAfter 18 = .ok (.ireturn, 1) := by decide +kernel
theorem dL_quietAfter_19 : decode cL_quietAfter 19 = .ok (.iconst 0, 1) := by decide +kernel
theorem dL_quietAfter_20 : decode cL_quietAfter 20 = .ok (.ireturn, 1) := by decide +kernel
theorem dL_lowestOctane_0 : decode cL_lowestOctane 0 = .ok (.aload 4, 2) := by decide +kernel
theorem dL_lowestOctane_2 : decode cL_lowestOctane 2 = .ok (.iconst 0, 1) := by decide +kernel
theorem dL_lowestOctane_3 : decode cL_lowestOctane 3 = .ok (.aload_n 0, 1) := by decide +kernel
theorem dL_lowestOctane_4 : decode cL_lowestOctane 4 = .ok (.iload_n 1, 1) := by decide +kernel
theorem dL_lowestOctane_5 : decode cL_lowestOctane 5 = .ok (.iload_n 2, 1) := by decide +kernel
theorem dL_lowestOctane_6 : decode cL_lowestOctane 6 = .ok (.iload_n 3, 1) := by decide +kernel
theorem dL_lowestOctane_7 : decode cL_lowestOctane 7 = .ok (.invokevirtual 71, 3) := by decide +kernel
theorem dL_lowestOctane_10 : decode cL_lowestOctane 10 = .ok (.i2l, 1) := by decide +kernel
theorem dL_lowestOctane_11 : decode cL_lowestOctane 11 = .ok (.lastore, 1) := by decide +kernel
theorem dL_lowestOctane_12 : decode cL_lowestOctane 12 = .ok (.goto 7, 3) := by decide +kernel
theorem dL_lowestOctane_15 : decode cL_lowestOctane 15 = .ok (.astore 5, 2) := by decide +kernel
theorem dL_lowestOctane_17 : decode cL_lowestOctane 17 = .ok (.iconst 1, 1) := by decide +kernel
theorem dL_lowestOctane_18 : decode cL_lowestOctane 18 = .ok (.ireturn, 1) := by decide +kernel
theorem dL_lowestOctane_19 : decode cL_lowestOctane 19 = .ok (.iconst 0, 1) := by decide +kernel
theorem dL_lowestOctane_20 : decode cL_lowestOctane 20 = .ok (.ireturn, 1) := by decide +kernel
theorem dL_append_0 : decode cL_append 0 = .ok (.aload_n 2, 1) := by decide +kernel
theorem dL_append_1 : decode cL_append 1 = .ok (.iconst 0, 1) := by decide +kernel
theorem dL_append_2 : decode cL_append 2 = .ok (.aload_n 0, 1) := by decide +kernel
theorem dL_append_3 : decode cL_append 3 = .ok (.iload_n 1, 1) := by decide +kernel
theorem dL_append_4 : decode cL_append 4 = .ok (.invokevirtual 74, 3) := by decide +kernel
theorem dL_append_7 : decode cL_append 7 = .ok (.i2l, 1) := by decide +kernel
theorem dL_append_8 : decode cL_append 8 = .ok (.lastore, 1) := by decide +kernel
theorem dL_append_9 : decode cL_append 9 = .ok (.goto 9, 3) := by decide +kernel
theorem dL_append_12 : decode cL_append 12 = .ok (.astore_n 3, 1) := by decide +kernel
theorem dL_append_13 : decode cL_append 13 = .ok (.iconst 1, 1) := by decide +kernel
theorem dL_append_14 : decode cL_append 14 = .ok (.ireturn, 1) := by decide +kernel
theorem dL_append_15 : decode cL_append 15 = .ok (.astore_n 3, 1) := by decide +kernel
theorem dL_append_16 : decode cL_append 16 = .ok (.iconst 2, 1) := by decide +kernel
theorem dL_append_17 : decode cL_append 17 = .ok (.ireturn, 1) := by decide +kernel
theorem dL_append_18 : decode cL_append 18 = .ok (.iconst 0, 1) := by decide +kernel
theorem dL_append_19 : decode cL_append 19 = .ok (.ireturn, 1) := by decide +kernel
theorem dL_undo_0 : decode cL_undo 0 = .ok (.aload_n 1, 1) := by decide +kernel
theorem dL_undo_1 : decode cL_undo 1 = .ok (.iconst 0, 1) := by decide +kernel
theorem dL_undo_2 : decode cL_undo 2 = .ok (.aload_n 0, 1) := by decide +kernel
theorem dL_undo_3 : decode cL_undo 3 = .ok (.invokevirtual 79, 3) := by decide +kernel
theorem dL_undo_6 : decode cL_undo 6 = .ok (.i2l, 1) := by decide +kernel
theorem dL_undo_7 : decode cL_undo 7 = .ok (.lastore, 1) := by decide +kernel
theorem dL_undo_8 : decode cL_undo 8 = .ok (.goto 6, 3) := by decide +kernel
theorem dL_undo_11 : decode cL_undo 11 = .ok (.astore_n 2, 1) := by decide +kernel
theorem dL_undo_12 : decode cL_undo 12 = .ok (.iconst 1, 1) := by decide +kernel
theorem dL_undo_13 : decode cL_undo 13 = .ok (.ireturn, 1) := by decide +kernel
theorem dL_undo_14 : decode cL_undo 14 = .ok (.iconst 0, 1) := by decide +kernel
theorem dL_undo_15 : decode cL_undo 15 = .ok (.ireturn, 1) := by decide +kernel
end
section
theorem dL_law_0 : decode cL_law 0 = .ok (.new 8, 3) := by decide +kernel
theorem dL_law_3 : decode cL_law 3 = .ok (.dup, 1) := by decide +kernel
theorem dL_law_4 : decode cL_law 4 = .ok (.invokespecial 83, 3) := by decide +kernel
theorem dL_law_7 : decode cL_law 7 = .ok (.astore_n 1, 1) := by decide +kernel
theorem dL_law_8 : decode cL_law 8 = .ok (.new 84, 3) := by decide +kernel
theorem dL_law_11 : decode cL_law 11 = .ok (.dup, 1) := by decide +kernel
theorem dL_law_12 : decode cL_law 12 = .ok (.invokespecial 86, 3) := by decide +kernel
theorem dL_law_15 : decode cL_law 15 = .ok (.astore_n 2, 1) := by decide +kernel
theorem dL_law_16 : decode cL_law 16 = .ok (.iconst 1, 1) := by decide +kernel
theorem dL_law_17 : decode cL_law 17 = .ok (.newarray .long, 2) := by decide +kernel
theorem dL_law_19 : decode cL_law 19 = .ok (.astore_n 3, 1) := by decide +kernel
theorem dL_law_20 : decode cL_law 20 = .ok (.iconst 1, 1) := by decide +kernel
theorem dL_law_21 : decode cL_law 21 = .ok (.newarray .double, 2) := by decide +kernel
theorem dL_law_23 : decode cL_law 23 = .ok (.astore 4, 2) := by decide +kernel
theorem dL_law_25 : decode cL_law 25 = .ok (.iconst 0, 1) := by decide +kernel
theorem dL_law_26 : decode cL_law 26 = .ok (.istore 5, 2) := by decide +kernel
theorem dL_law_28 : decode cL_law 28 = .ok (.iload 5, 2) := by decide +kernel
theorem dL_law_30 : decode cL_law 30 = .ok (.aload_n 0, 1) := by decide +kernel
theorem dL_law_31 : decode cL_law 31 = .ok (.arraylength, 1) := by decide +kernel
theorem dL_law_32 : decode cL_law 32 = .ok (.iconst 5, 1) := by decide +kernel
theorem dL_law_33 : decode cL_law 33 = .ok (.isub, 1) := by decide +kernel
theorem dL_law_34 : decode cL_law 34 = .ok (.if_icmp .gt 1747, 3) := by decide +kernel
theorem dL_law_37 : decode cL_law 37 = .ok (.aload_n 0, 1) := by decide +kernel
theorem dL_law_38 : decode cL_law 38 = .ok (.iload 5, 2) := by decide +kernel
theorem dL_law_40 : decode cL_law 40 = .ok (.iaload, 1) := by decide +kernel
theorem dL_law_41 : decode cL_law 41 = .ok (.bipush 31, 2) := by decide +kernel
theorem dL_law_43 : decode cL_law 43 = .ok (.iand, 1) := by decide +kernel
theorem dL_law_44 : decode cL_law 44 = .ok (.tableswitch 1731 0 28 #[132, 188, 256, 312, 392, 433, 489, 569, 661, 674, 687, 755, 823, 931, 987, 1000, 1013, 1090, 1202, 1215, 1283, 1339, 1431, 1511, 1591, 1647, 1660, 1673, 1717], 132) := by decide +kernel
theorem dL_law_176 : decode cL_law 176 = .ok (.aload_n 1, 1) := by decide +kernel
theorem dL_law_177 : decode cL_law 177 = .ok (.aload_n 0, 1) := by decide +kernel
theorem dL_law_178 : decode cL_law 178 = .ok (.iload 5, 2) := by decide +kernel
theorem dL_law_180 : decode cL_law 180 = .ok (.iconst 1, 1) := by decide +kernel
theorem dL_law_181 : decode cL_law 181 = .ok (.iadd, 1) := by decide +kernel
theorem dL_law_182 : decode cL_law 182 = .ok (.iaload, 1) := by decide +kernel
theorem dL_law_183 : decode cL_law 183 = .ok (.aload_n 3, 1) := by decide +kernel
theorem dL_law_184 : decode cL_law 184 = .ok (.invokestatic 87, 3) := by decide +kernel
theorem dL_law_187 : decode cL_law 187 = .ok (.istore 6, 2) := by decide +kernel
theorem dL_law_189 : decode cL_law 189 = .ok (.aload_n 2, 1) := by decide +kernel
theorem dL_law_190 : decode cL_law 190 = .ok (.aload_n 0, 1) := by decide +kernel
theorem dL_law_191 : decode cL_law 191 = .ok (.iload 5, 2) := by decide +kernel
theorem dL_law_193 : decode cL_law 193 = .ok (.iconst 1, 1) := by decide +kernel
theorem dL_law_194 : decode cL_law 194 = .ok (.iadd, 1) := by decide +kernel
theorem dL_law_195 : decode cL_law 195 = .ok (.iaload, 1) := by decide +kernel
theorem dL_law_196 : decode cL_law 196 = .ok (.invokevirtual 92, 3) := by decide +kernel
theorem dL_law_199 : decode cL_law 199 = .ok (.istore 7, 2) := by decide +kernel
theorem dL_law_201 : decode cL_law 201 = .ok (.aload_n 2, 1) := by decide +kernel
theorem dL_law_202 : decode cL_law 202 = .ok (.invokevirtual 93, 3) := by decide +kernel
theorem dL_law_205 : decode cL_law 205 = .ok (.iload 6, 2) := by decide +kernel
theorem dL_law_207 : decode cL_law 207 = .ok (.if_icmp .eq 5, 3) := by decide +kernel
theorem dL_law_210 : decode cL_law 210 = .ok (.iconst 0, 1) := by decide +kernel
theorem dL_law_211 : decode cL_law 211 = .ok (.ireturn, 1) := by decide +kernel
theorem dL_law_212 : decode cL_law 212 = .ok (.iload 6, 2) := by decide +kernel
theorem dL_law_214 : decode cL_law 214 = .ok (.ifCond .ne 15, 3) := by decide +kernel
theorem dL_law_217 : decode cL_law 217 = .ok (.aload_n 3, 1) := by decide +kernel
theorem dL_law_218 : decode cL_law 218 = .ok (.iconst 0, 1) := by decide +kernel
theorem dL_law_219 : decode cL_law 219 = .ok (.laload, 1) := by decide +kernel
theorem dL_law_220 : decode cL_law 220 = .ok (.iload 7, 2) := by decide +kernel
theorem dL_law_222 : decode cL_law 222 = .ok (.i2l, 1) := by decide +kernel
theorem dL_law_223 : decode cL_law 223 = .ok (.lcmp, 1) := by decide +kernel
theorem dL_law_224 : decode cL_law 224 = .ok (.ifCond .eq 5, 3) := by decide +kernel
theorem dL_law_227 : decode cL_law 227 = .ok (.iconst 0, 1) := by decide +kernel
theorem dL_law_228 : decode cL_law 228 = .ok (.ireturn, 1) := by decide +kernel
theorem dL_law_229 : decode cL_law 229 = .ok (.goto 1546, 3) := by decide +kernel
theorem dL_law_232 : decode cL_law 232 = .ok (.aload_n 1, 1) := by decide +kernel
theorem dL_law_233 : decode cL_law 233 = .ok (.aload_n 0, 1) := by decide +kernel
theorem dL_law_234 : decode cL_law 234 = .ok (.iload 5, 2) := by decide +kernel
theorem dL_law_236 : decode cL_law 236 = .ok (.iconst 1, 1) := by decide +kernel
theorem dL_law_237 : decode cL_law 237 = .ok (.iadd, 1) := by decide +kernel
theorem dL_law_238 : decode cL_law 238 = .ok (.iaload, 1) := by decide +kernel
theorem dL_law_239 : decode cL_law 239 = .ok (.aload_n 0, 1) := by decide +kernel
theorem dL_law_240 : decode cL_law 240 = .ok (.iload 5, 2) := by decide +kernel
theorem dL_law_242 : decode cL_law 242 = .ok (.iconst 2, 1) := by decide +kernel
theorem dL_law_243 : decode cL_law 243 = .ok (.iadd, 1) := by decide +kernel
theorem dL_law_244 : decode cL_law 244 = .ok (.iaload, 1) := by decide +kernel
theorem dL_law_245 : decode cL_law 245 = .ok (.aload_n 3, 1) := by decide +kernel
theorem dL_law_246 : decode cL_law 246 = .ok (.invokestatic 96, 3) := by decide +kernel
theorem dL_law_249 : decode cL_law 249 = .ok (.istore 6, 2) := by decide +kernel
theorem dL_law_251 : decode cL_law 251 = .ok (.aload_n 2, 1) := by decide +kernel
theorem dL_law_252 : decode cL_law 252 = .ok (.aload_n 0, 1) := by decide +kernel
theorem dL_law_253 : decode cL_law 253 = .ok (.iload 5, 2) := by decide +kernel
theorem dL_law_255 : decode cL_law 255 = .ok (.iconst 1, 1) := by decide +kernel
theorem dL_law_256 : decode cL_law 256 = .ok (.iadd, 1) := by decide +kernel
theorem dL_law_257 : decode cL_law 257 = .ok (.iaload, 1) := by decide +kernel
theorem dL_law_258 : decode cL_law 258 = .ok (.aload_n 0, 1) := by decide +kernel
theorem dL_law_259 : decode cL_law 259 = .ok (.iload 5, 2) := by decide +kernel
theorem dL_law_261 : decode cL_law 261 = .ok (.iconst 2, 1) := by decide +kernel
theorem dL_law_262 : decode cL_law 262 = .ok (.iadd, 1) := by decide +kernel
theorem dL_law_263 : decode cL_law 263 = .ok (.iaload, 1) := by decide +kernel
theorem dL_law_264 : decode cL_law 264 = .ok (.invokevirtual 99, 3) := by decide +kernel
theorem dL_law_267 : decode cL_law 267 = .ok (.istore 7, 2) := by decide +kernel
theorem dL_law_269 : decode cL_law 269 = .ok (.aload_n 2, 1) := by decide +kernel
theorem dL_law_270 : decode cL_law 270 = .ok (.invokevirtual 93, 3) := by decide +kernel
theorem dL_law_273 : decode cL_law 273 = .ok (.iload 6, 2) := by decide +kernel
theorem dL_law_275 : decode cL_law 275 = .ok (.if_icmp .eq 5, 3) := by decide +kernel
theorem dL_law_278 : decode cL_law 278 = .ok (.iconst 0, 1) := by decide +kernel
theorem dL_law_279 : decode cL_law 279 = .ok (.ireturn, 1) := by decide +kernel
theorem dL_law_280 : decode cL_law 280 = .ok (.iload 6, 2) := by decide +kernel
theorem dL_law_282 : decode cL_law 282 = .ok (.ifCond .ne 15, 3) := by decide +kernel
theorem dL_law_285 : decode cL_law 285 = .ok (.aload_n 3, 1) := by decide +kernel
theorem dL_law_286 : decode cL_law 286 = .ok (.iconst 0, 1) := by decide +kernel
theorem dL_law_287 : decode cL_law 287 = .ok (.laload, 1) := by decide +kernel
theorem dL_law_288 : decode cL_law 288 = .ok (.iload 7, 2) := by decide +kernel
theorem dL_law_290 : decode cL_law 290 = .ok (.i2l, 1) := by decide +kernel
theorem dL_law_291 : decode cL_law 291 = .ok (.lcmp, 1) := by decide +kernel
theorem dL_law_292 : decode cL_law 292 = .ok (.ifCond .eq 5, 3) := by decide +kernel
theorem dL_law_295 : decode cL_law 295 = .ok (.iconst 0, 1) := by decide +kernel
theorem dL_law_296 : decode cL_law 296 = .ok (.ireturn, 1) := by decide +kernel
theorem dL_law_297 : decode cL_law 297 = .ok (.goto 1478, 3) := by decide +kernel
theorem dL_law_300 : decode cL_law 300 = .ok (.aload_n 1, 1) := by decide +kernel
theorem dL_law_301 : decode cL_law 301 = .ok (.aload_n 0, 1) := by decide +kernel
theorem dL_law_302 : decode cL_law 302 = .ok (.iload 5, 2) := by decide +kernel
theorem dL_law_304 : decode cL_law 304 = .ok (.iconst 1, 1) := by decide +kernel
theorem dL_law_305 : decode cL_law 305 = .ok (.iadd, 1) := by decide +kernel
theorem dL_law_306 : decode cL_law 306 = .ok (.iaload, 1) := by decide +kernel
theorem dL_law_307 : decode cL_law 307 = .ok (.aload_n 3, 1) := by decide +kernel
theorem dL_law_308 : decode cL_law 308 = .ok (.invokestatic 100, 3) := by decide +kernel
theorem dL_law_311 : decode cL_law 311 = .ok (.istore 6, 2) := by decide +kernel
theorem dL_law_313 : decode cL_law 313 = .ok (.aload_n 2, 1) := by decide +kernel
theorem dL_law_314 : decode cL_law 314 = .ok (.aload_n 0, 1) := by decide +kernel
theorem dL_law_315 : decode cL_law 315 = .ok (.iload 5, 2) := by decide +kernel
theorem dL_law_317 : decode cL_law 317 = .ok (.iconst 1, 1) := by decide +kernel
theorem dL_law_318 : decode cL_law 318 = .ok (.iadd, 1) := by decide +kernel
theorem dL_law_319 : decode cL_law 319 = .ok (.iaload, 1) := by decide +kernel
theorem dL_law_320 : decode cL_law 320 = .ok (.invokevirtual 102, 3) := by decide +kernel
theorem dL_law_323 : decode cL_law 323 = .ok (.istore 7, 2) := by decide +kernel
theorem dL_law_325 : decode cL_law 325 = .ok (.aload_n 2, 1) := by decide +kernel
theorem dL_law_326 : decode cL_law 326 = .ok (.invokevirtual 93, 3) := by decide +kernel
theorem dL_law_329 : decode cL_law 329 = .ok (.iload 6, 2) := by decide +kernel
theorem dL_law_331 : decode cL_law 331 = .ok (.if_icmp .eq 5, 3) := by decide +kernel
theorem dL_law_334 : decode cL_law 334 = .ok (.iconst 0, 1) := by decide +kernel
theorem dL_law_335 : decode cL_law 335 = .ok (.ireturn, 1) := by decide +kernel
theorem dL_law_336 : decode cL_law 336 = .ok (.iload 6, 2) := by decide +kernel
theorem dL_law_338 : decode cL_law 338 = .ok (.ifCond .ne 15, 3) := by decide +kernel
theorem dL_law_341 : decode cL_law 341 = .ok (.aload_n 3, 1) := by decide +kernel
theorem dL_law_342 : decode cL_law 342 = .ok (.iconst 0, 1) := by decide +kernel
theorem dL_law_343 : decode cL_law 343 = .ok (.laload, 1) := by decide +kernel
theorem dL_law_344 : decode cL_law 344 = .ok (.iload 7, 2) := by decide +kernel
theorem dL_law_346 : decode cL_law 346 = .ok (.i2l, 1) := by decide +kernel
theorem dL_law_347 : decode cL_law 347 = .ok (.lcmp, 1) := by decide +kernel
theorem dL_law_348 : decode cL_law 348 = .ok (.ifCond .eq 5, 3) := by decide +kernel
theorem dL_law_351 : decode cL_law 351 = .ok (.iconst 0, 1) := by decide +kernel
theorem dL_law_352 : decode cL_law 352 = .ok (.ireturn, 1) := by decide +kernel
theorem dL_law_353 : decode cL_law 353 = .ok (.goto 1422, 3) := by decide +kernel
theorem dL_law_356 : decode cL_law 356 = .ok (.aload_n 1, 1) := by decide +kernel
theorem dL_law_357 : decode cL_law 357 = .ok (.aload_n 0, 1) := by decide +kernel
theorem dL_law_358 : decode cL_law 358 = .ok (.iload 5, 2) := by decide +kernel
theorem dL_law_360 : decode cL_law 360 = .ok (.iconst 1, 1) := by decide +kernel
theorem dL_law_361 : decode cL_law 361 = .ok (.iadd, 1) := by decide +kernel
theorem dL_law_362 : decode cL_law 362 = .ok (.iaload, 1) := by decide +kernel
theorem dL_law_363 : decode cL_law 363 = .ok (.aload_n 0, 1) := by decide +kernel
theorem dL_law_364 : decode cL_law 364 = .ok (.iload 5, 2) := by decide +kernel
theorem dL_law_366 : decode cL_law 366 = .ok (.iconst 2, 1) := by decide +kernel
theorem dL_law_367 : decode cL_law 367 = .ok (.iadd, 1) := by decide +kernel
theorem dL_law_368 : decode cL_law 368 = .ok (.iaload, 1) := by decide +kernel
theorem dL_law_369 : decode cL_law 369 = .ok (.aload_n 0, 1) := by decide +kernel
theorem dL_law_370 : decode cL_law 370 = .ok (.iload 5, 2) := by decide +kernel
theorem dL_law_372 : decode cL_law 372 = .ok (.iconst 3, 1) := by decide +kernel
theorem dL_law_373 : decode cL_law 373 = .ok (.iadd, 1) := by decide +kernel
theorem dL_law_374 : decode cL_law 374 = .ok (.iaload, 1) := by decide +kernel
theorem dL_law_375 : decode cL_law 375 = .ok (.aload_n 3, 1) := by decide +kernel
theorem dL_law_376 : decode cL_law 376 = .ok (.invokestatic 103, 3) := by decide +kernel
theorem dL_law_379 : decode cL_law 379 = .ok (.istore 6, 2) := by decide +kernel
theorem dL_law_381 : decode cL_law 381 = .ok (.aload_n 2, 1) := by decide +kernel
theorem dL_law_382 : decode cL_law 382 = .ok (.aload_n 0, 1) := by decide +kernel
theorem dL_law_383 : decode cL_law 383 = .ok (.iload 5, 2) := by decide +kernel
theorem dL_law_385 : decode cL_law 385 = .ok (.iconst 1, 1) := by decide +kernel
theorem dL_law_386 : decode cL_law 386 = .ok (.iadd, 1) := by decide +kernel
theorem dL_law_387 : decode cL_law 387 = .ok (.iaload, 1) := by decide +kernel
theorem dL_law_388 : decode cL_law 388 = .ok (.aload_n 0, 1) := by decide +kernel
theorem dL_law_389 : decode cL_law 389 = .ok (.iload 5, 2) := by decide +kernel
theorem dL_law_391 : decode cL_law 391 = .ok (.iconst 2, 1) := by decide +kernel
theorem dL_law_392 : decode cL_law 392 = .ok (.iadd, 1) := by decide +kernel
theorem dL_law_393 : decode cL_law 393 = .ok (.iaload, 1) := by decide +kernel
theorem dL_law_394 : decode cL_law 394 = .ok (.aload_n 0, 1) := by decide +kernel
theorem dL_law_395 : decode cL_law 395 = .ok (.iload 5, 2) := by decide +kernel
theorem dL_law_397 : decode cL_law 397 = .ok (.iconst 3, 1) := by decide +kernel
theorem dL_law_398 : decode cL_law 398 = .ok (.iadd, 1) := by decide +kernel
theorem dL_law_399 : decode cL_law 399 = .ok (.iaload, 1) := by decide +kernel
theorem dL_law_400 : decode cL_law 400 = .ok (.invokevirtual 106, 3) := by decide +kernel
theorem dL_law_403 : decode cL_law 403 = .ok (.istore 7, 2) := by decide +kernel
theorem dL_law_405 : decode cL_law 405 = .ok (.aload_n 2, 1) := by decide +kernel
theorem dL_law_406 : decode cL_law 406 = .ok (.invokevirtual 93, 3) := by decide +kernel
theorem dL_law_409 : decode cL_law 409 = .ok (.iload 6, 2) := by decide +kernel
theorem dL_law_411 : decode cL_law 411 = .ok (.if_icmp .eq 5, 3) := by decide +kernel
theorem dL_law_414 : decode cL_law 414 = .ok (.iconst 0, 1) := by decide +kernel
theorem dL_law_415 : decode cL_law 415 = .ok (.ireturn, 1) := by decide +kernel
theorem dL_law_416 : decode cL_law 416 = .ok (.iload 6, 2) := by decide +kernel
theorem dL_law_418 : decode cL_law 418 = .ok (.ifCond .ne 15, 3) := by decide +kernel
theorem dL_law_421 : decode cL_law 421 = .ok (.aload_n 3, 1) := by decide +kernel
theorem dL_law_422 : decode cL_law 422 = .ok (.iconst 0, 1) := by decide +kernel
theorem dL_law_423 : decode cL_law 423 = .ok (.laload, 1) := by decide +kernel
theorem dL_law_424 : decode cL_law 424 = .ok (.iload 7, 2) := by decide +kernel
theorem dL_law_426 : decode cL_law 426 = .ok (.i2l, 1) := by decide +kernel
theorem dL_law_427 : decode cL_law 427 = .ok (.lcmp, 1) := by decide +kernel
theorem dL_law_428 : decode cL_law 428 = .ok (.ifCond .eq 5, 3) := by decide +kernel
theorem dL_law_431 : decode cL_law 431 = .ok (.iconst 0, 1) := by decide +kernel
theorem dL_law_432 : decode cL_law 432 = .ok (.ireturn, 1) := by decide +kernel
theorem dL_law_433 : decode cL_law 433 = .ok (.goto 1342, 3) := by decide +kernel
theorem dL_law_436 : decode cL_law 436 = .ok (.aload_n 1, 1) := by decide +kernel
theorem dL_law_437 : decode cL_law 437 = .ok (.aload_n 0, 1) := by decide +kernel
theorem dL_law_438 : decode cL_law 438 = .ok (.iload 5, 2) := by decide +kernel
theorem dL_law_440 : decode cL_law 440 = .ok (.iconst 1, 1) := by decide +kernel
theorem dL_law_441 : decode cL_law 441 = .ok (.iadd, 1) := by decide +kernel
theorem dL_law_442 : decode cL_law 442 = .ok (.iaload, 1) := by decide +kernel
theorem dL_law_443 : decode cL_law 443 = .ok (.ifCond .eq 7, 3) := by decide +kernel
theorem dL_law_446 : decode cL_law 446 = .ok (.iconst 1, 1) := by decide +kernel
theorem dL_law_447 : decode cL_law 447 = .ok (.goto 4, 3) := by decide +kernel
theorem dL_law_450 : decode cL_law 450 = .ok (.iconst 0, 1) := by decide +kernel
theorem dL_law_451 : decode cL_law 451 = .ok (.invokevirtual 107, 3) := by decide +kernel
theorem dL_law_454 : decode cL_law 454 = .ok (.aload_n 2, 1) := by decide +kernel
theorem dL_law_455 : decode cL_law 455 = .ok (.aload_n 0, 1) := by decide +kernel
theorem dL_law_456 : decode cL_law 456 = .ok (.iload 5, 2) := by decide +kernel
theorem dL_law_458 : decode cL_law 458 = .ok (.iconst 1, 1) := by decide +kernel
theorem dL_law_459 : decode cL_law 459 = .ok (.iadd, 1) := by decide +kernel
theorem dL_law_460 : decode cL_law 460 = .ok (.iaload, 1) := by decide +kernel
theorem dL_law_461 : decode cL_law 461 = .ok (.ifCond .eq 7, 3) := by decide +kernel
theorem dL_law_464 : decode cL_law 464 = .ok (.iconst 1, 1) := by decide +kernel
theorem dL_law_465 : decode cL_law 465 = .ok (.goto 4, 3) := by decide +kernel
theorem dL_law_468 : decode cL_law 468 = .ok (.iconst 0, 1) := by decide +kernel
theorem dL_law_469 : decode cL_law 469 = .ok (.invokevirtual 111, 3) := by decide +kernel
theorem dL_law_472 : decode cL_law 472 = .ok (.if_icmp .eq 1303, 3) := by decide +kernel
theorem dL_law_475 : decode cL_law 475 = .ok (.iconst 0, 1) := by decide +kernel
theorem dL_law_476 : decode cL_law 476 = .ok (.ireturn, 1) := by decide +kernel
theorem dL_law_477 : decode cL_law 477 = .ok (.aload_n 1, 1) := by decide +kernel
theorem dL_law_478 : decode cL_law 478 = .ok (.aload_n 0, 1) := by decide +kernel
theorem dL_law_479 : decode cL_law 479 = .ok (.iload 5, 2) := by decide +kernel
theorem dL_law_481 : decode cL_law 481 = .ok (.iconst 1, 1) := by decide +kernel
theorem dL_law_482 : decode cL_law 482 = .ok (.iadd, 1) := by decide +kernel
theorem dL_law_483 : decode cL_law 483 = .ok (.iaload, 1) := by decide +kernel
theorem dL_law_484 : decode cL_law 484 = .ok (.aload_n 3, 1) := by decide +kernel
theorem dL_law_485 : decode cL_law 485 = .ok (.invokestatic 112, 3) := by decide +kernel
theorem dL_law_488 : decode cL_law 488 = .ok (.istore 6, 2) := by decide +kernel
theorem dL_law_490 : decode cL_law 490 = .ok (.aload_n 2, 1) := by decide +kernel
theorem dL_law_491 : decode cL_law 491 = .ok (.aload_n 0, 1) := by decide +kernel
theorem dL_law_492 : decode cL_law 492 = .ok (.iload 5, 2) := by decide +kernel
theorem dL_law_494 : decode cL_law 494 = .ok (.iconst 1, 1) := by decide +kernel
theorem dL_law_495 : decode cL_law 495 = .ok (.iadd, 1) := by decide +kernel
theorem dL_law_496 : decode cL_law 496 = .ok (.iaload, 1) := by decide +kernel
theorem dL_law_497 : decode cL_law 497 = .ok (.invokevirtual 114, 3) := by decide +kernel
theorem dL_law_500 : decode cL_law 500 = .ok (.istore 7, 2) := by decide +kernel
theorem dL_law_502 : decode cL_law 502 = .ok (.aload_n 2, 1) := by decide +kernel
theorem dL_law_503 : decode cL_law 503 = .ok (.invokevirtual 93, 3) := by decide +kernel
theorem dL_law_506 : decode cL_law 506 = .ok (.iload 6, 2) := by decide +kernel
theorem dL_law_508 : decode cL_law 508 = .ok (.if_icmp .eq 5, 3) := by decide +kernel
theorem dL_law_511 : decode cL_law 511 = .ok (.iconst 0, 1) := by decide +kernel
theorem dL_law_512 : decode cL_law 512 = .ok (.ireturn, 1) := by decide +kernel
theorem dL_law_513 : decode cL_law 513 = .ok (.iload 6, 2) := by decide +kernel
theorem dL_law_515 : decode cL_law 515 = .ok (.ifCond .ne 15, 3) := by decide +kernel
theorem dL_law_518 : decode cL_law 518 = .ok (.aload_n 3, 1) := by decide +kernel
theorem dL_law_519 : decode cL_law 519 = .ok (.iconst 0, 1) := by decide +kernel
theorem dL_law_520 : decode cL_law 520 = .ok (.laload, 1) := by decide +kernel
theorem dL_law_521 : decode cL_law 521 = .ok (.iload 7, 2) := by decide +kernel
theorem dL_law_523 : decode cL_law 523 = .ok (.i2l, 1) := by decide +kernel
theorem dL_law_524 : decode cL_law 524 = .ok (.lcmp, 1) := by decide +kernel
theorem dL_law_525 : decode cL_law 525 = .ok (.ifCond .eq 5, 3) := by decide +kernel
theorem dL_law_528 : decode cL_law 528 = .ok (.iconst 0, 1) := by decide +kernel
theorem dL_law_529 : decode cL_law 529 = .ok (.ireturn, 1) := by decide +kernel
theorem dL_law_530 : decode cL_law 530 = .ok (.goto 1245, 3) := by decide +kernel
theorem dL_law_533 : decode cL_law 533 = .ok (.aload_n 1, 1) := by decide +kernel
theorem dL_law_534 : decode cL_law 534 = .ok (.aload_n 0, 1) := by decide +kernel
theorem dL_law_535 : decode cL_law 535 = .ok (.iload 5, 2) := by decide +kernel
theorem dL_law_537 : decode cL_law 537 = .ok (.iconst 1, 1) := by decide +kernel
theorem dL_law_538 : decode cL_law 538 = .ok (.iadd, 1) := by decide +kernel
theorem dL_law_539 : decode cL_law 539 = .ok (.iaload, 1) := by decide +kernel
theorem dL_law_540 : decode cL_law 540 = .ok (.aload_n 0, 1) := by decide +kernel
theorem dL_law_541 : decode cL_law 541 = .ok (.iload 5, 2) := by decide +kernel
theorem dL_law_543 : decode cL_law 543 = .ok (.iconst 2, 1) := by decide +kernel
theorem dL_law_544 : decode cL_law 544 = .ok (.iadd, 1) := by decide +kernel
theorem dL_law_545 : decode cL_law 545 = .ok (.iaload, 1) := by decide +kernel
theorem dL_law_546 : decode cL_law 546 = .ok (.aload_n 0, 1) := by decide +kernel
theorem dL_law_547 : decode cL_law 547 = .ok (.iload 5, 2) := by decide +kernel
theorem dL_law_549 : decode cL_law 549 = .ok (.iconst 3, 1) := by decide +kernel
theorem dL_law_550 : decode cL_law 550 = .ok (.iadd, 1) := by decide +kernel
theorem dL_law_551 : decode cL_law 551 = .ok (.iaload, 1) := by decide +kernel
theorem dL_law_552 : decode cL_law 552 = .ok (.aload_n 3, 1) := by decide +kernel
theorem dL_law_553 : decode cL_law 553 = .ok (.invokestatic 115, 3) := by decide +kernel
theorem dL_law_556 : decode cL_law 556 = .ok (.istore 6, 2) := by decide +kernel
theorem dL_law_558 : decode cL_law 558 = .ok (.aload_n 2, 1) := by decide +kernel
theorem dL_law_559 : decode cL_law 559 = .ok (.aload_n 0, 1) := by decide +kernel
theorem dL_law_560 : decode cL_law 560 = .ok (.iload 5, 2) := by decide +kernel
theorem dL_law_562 : decode cL_law 562 = .ok (.iconst 1, 1) := by decide +kernel
theorem dL_law_563 : decode cL_law 563 = .ok (.iadd, 1) := by decide +kernel
theorem dL_law_564 : decode cL_law 564 = .ok (.iaload, 1) := by decide +kernel
theorem dL_law_565 : decode cL_law 565 = .ok (.aload_n 0, 1) := by decide +kernel
theorem dL_law_566 : decode cL_law 566 = .ok (.iload 5, 2) := by decide +kernel
theorem dL_law_568 : decode cL_law 568 = .ok (.iconst 2, 1) := by decide +kernel
theorem dL_law_569 : decode cL_law 569 = .ok (.iadd, 1) := by decide +kernel
theorem dL_law_570 : decode cL_law 570 = .ok (.iaload, 1) := by decide +kernel
theorem dL_law_571 : decode cL_law 571 = .ok (.aload_n 0, 1) := by decide +kernel
theorem dL_law_572 : decode cL_law 572 = .ok (.iload 5, 2) := by decide +kernel
theorem dL_law_574 : decode cL_law 574 = .ok (.iconst 3, 1) := by decide +kernel
theorem dL_law_575 : decode cL_law 575 = .ok (.iadd, 1) := by decide +kernel
theorem dL_law_576 : decode cL_law 576 = .ok (.iaload, 1) := by decide +kernel
theorem dL_law_577 : decode cL_law 577 = .ok (.invokevirtual 117, 3) := by decide +kernel
theorem dL_law_580 : decode cL_law 580 = .ok (.istore 7, 2) := by decide +kernel
theorem dL_law_582 : decode cL_law 582 = .ok (.aload_n 2, 1) := by decide +kernel
theorem dL_law_583 : decode cL_law 583 = .ok (.invokevirtual 93, 3) := by decide +kernel
theorem dL_law_586 : decode cL_law 586 = .ok (.iload 6, 2) := by decide +kernel
theorem dL_law_588 : decode cL_law 588 = .ok (.if_icmp .eq 5, 3) := by decide +kernel
theorem dL_law_591 : decode cL_law 591 = .ok (.iconst 0, 1) := by decide +kernel
theorem dL_law_592 : decode cL_law 592 = .ok (.ireturn, 1) := by decide +kernel
theorem dL_law_593 : decode cL_law 593 = .ok (.iload 6, 2) := by decide +kernel
theorem dL_law_595 : decode cL_law 595 = .ok (.ifCond .ne 15, 3) := by decide +kernel
theorem dL_law_598 : decode cL_law 598 = .ok (.aload_n 3, 1) := by decide +kernel
theorem dL_law_599 : decode cL_law 599 = .ok (.iconst 0, 1) := by decide +kernel
theorem dL_law_600 : decode cL_law 600 = .ok (.laload, 1) := by decide +kernel
theorem dL_law_601 : decode cL_law 601 = .ok (.iload 7, 2) := by decide +kernel
theorem dL_law_603 : decode cL_law 603 = .ok (.i2l, 1) := by decide +kernel
theorem dL_law_604 : decode cL_law 604 = .ok (.lcmp, 1) := by decide +kernel
theorem dL_law_605 : decode cL_law 605 = .ok (.ifCond .eq 5, 3) := by decide +kernel
theorem dL_law_608 : decode cL_law 608 = .ok (.iconst 0, 1) := by decide +kernel
theorem dL_law_609 : decode cL_law 609 = .ok (.ireturn, 1) := by decide +kernel
theorem dL_law_610 : decode cL_law 610 = .ok (.goto 1165, 3) := by decide +kernel
theorem dL_law_613 : decode cL_law 613 = .ok (.aload_n 1, 1) := by decide +kernel
theorem dL_law_614 : decode cL_law 614 = .ok (.aload_n 0, 1) := by decide +kernel
theorem dL_law_615 : decode cL_law 615 = .ok (.iload 5, 2) := by decide +kernel
theorem dL_law_617 : decode cL_law 617 = .ok (.iconst 1, 1) := by decide +kernel
theorem dL_law_618 : decode cL_law 618 = .ok (.iadd, 1) := by decide +kernel
theorem dL_law_619 : decode cL_law 619 = .ok (.iaload, 1) := by decide +kernel
theorem dL_law_620 : decode cL_law 620 = .ok (.aload_n 0, 1) := by decide +kernel
theorem dL_law_621 : decode cL_law 621 = .ok (.iload 5, 2) := by decide +kernel
theorem dL_law_623 : decode cL_law 623 = .ok (.iconst 2, 1) := by decide +kernel
theorem dL_law_624 : decode cL_law 624 = .ok (.iadd, 1) := by decide +kernel
theorem dL_law_625 : decode cL_law 625 = .ok (.iaload, 1) := by decide +kernel
theorem dL_law_626 : decode cL_law 626 = .ok (.aload_n 0, 1) := by decide +kernel
theorem dL_law_627 : decode cL_law 627 = .ok (.iload 5, 2) := by decide +kernel
theorem dL_law_629 : decode cL_law 629 = .ok (.iconst 3, 1) := by decide +kernel
theorem dL_law_630 : decode cL_law 630 = .ok (.iadd, 1) := by decide +kernel
theorem dL_law_631 : decode cL_law 631 = .ok (.iaload, 1) := by decide +kernel
theorem dL_law_632 : decode cL_law 632 = .ok (.aload_n 0, 1) := by decide +kernel
theorem dL_law_633 : decode cL_law 633 = .ok (.iload 5, 2) := by decide +kernel
theorem dL_law_635 : decode cL_law 635 = .ok (.iconst 4, 1) := by decide +kernel
theorem dL_law_636 : decode cL_law 636 = .ok (.iadd, 1) := by decide +kernel
theorem dL_law_637 : decode cL_law 637 = .ok (.iaload, 1) := by decide +kernel
theorem dL_law_638 : decode cL_law 638 = .ok (.aload_n 3, 1) := by decide +kernel
theorem dL_law_639 : decode cL_law 639 = .ok (.invokestatic 118, 3) := by decide +kernel
theorem dL_law_642 : decode cL_law 642 = .ok (.istore 6, 2) := by decide +kernel
theorem dL_law_644 : decode cL_law 644 = .ok (.aload_n 2, 1) := by decide +kernel
theorem dL_law_645 : decode cL_law 645 = .ok (.aload_n 0, 1) := by decide +kernel
theorem dL_law_646 : decode cL_law 646 = .ok (.iload 5, 2) := by decide +kernel
theorem dL_law_648 : decode cL_law 648 = .ok (.iconst 1, 1) := by decide +kernel
theorem dL_law_649 : decode cL_law 649 = .ok (.iadd, 1) := by decide +kernel
theorem dL_law_650 : decode cL_law 650 = .ok (.iaload, 1) := by decide +kernel
theorem dL_law_651 : decode cL_law 651 = .ok (.aload_n 0, 1) := by decide +kernel
theorem dL_law_652 : decode cL_law 652 = .ok (.iload 5, 2) := by decide +kernel
theorem dL_law_654 : decode cL_law 654 = .ok (.iconst 2, 1) := by decide +kernel
theorem dL_law_655 : decode cL_law 655 = .ok (.iadd, 1) := by decide +kernel
theorem dL_law_656 : decode cL_law 656 = .ok (.iaload, 1) := by decide +kernel
theorem dL_law_657 : decode cL_law 657 = .ok (.aload_n 0, 1) := by decide +kernel
theorem dL_law_658 : decode cL_law 658 = .ok (.iload 5, 2) := by decide +kernel
theorem dL_law_660 : decode cL_law 660 = .ok (.iconst 3, 1) := by decide +kernel
theorem dL_law_661 : decode cL_law 661 = .ok (.iadd, 1) := by decide +kernel
theorem dL_law_662 : decode cL_law 662 = .ok (.iaload, 1) := by decide +kernel
theorem dL_law_663 : decode cL_law 663 = .ok (.aload_n 0, 1) := by decide +kernel
theorem dL_law_664 : decode cL_law 664 = .ok (.iload 5, 2) := by decide +kernel
theorem dL_law_666 : decode cL_law 666 = .ok (.iconst 4, 1) := by decide +kernel
theorem dL_law_667 : decode cL_law 667 = .ok (.iadd, 1) := by decide +kernel
theorem dL_law_668 : decode cL_law 668 = .ok (.iaload, 1) := by decide +kernel
theorem dL_law_669 : decode cL_law 669 = .ok (.invokevirtual 121, 3) := by decide +kernel
theorem dL_law_672 : decode cL_law 672 = .ok (.istore 7, 2) := by decide +kernel
theorem dL_law_674 : decode cL_law 674 = .ok (.aload_n 2, 1) := by decide +kernel
theorem dL_law_675 : decode cL_law 675 = .ok (.invokevirtual 93, 3) := by decide +kernel
theorem dL_law_678 : decode cL_law 678 = .ok (.iload 6, 2) := by decide +kernel
theorem dL_law_680 : decode cL_law 680 = .ok (.if_icmp .eq 5, 3) := by decide +kernel
theorem dL_law_683 : decode cL_law 683 = .ok (.iconst 0, 1) := by decide +kernel
theorem dL_law_684 : decode cL_law 684 = .ok (.ireturn, 1) := by decide +kernel
theorem dL_law_685 : decode cL_law 685 = .ok (.iload 6, 2) := by decide +kernel
theorem dL_law_687 : decode cL_law 687 = .ok (.ifCond .ne 15, 3) := by decide +kernel
theorem dL_law_690 : decode cL_law 690 = .ok (.aload_n 3, 1) := by decide +kernel
theorem dL_law_691 : decode cL_law 691 = .ok (.iconst 0, 1) := by decide +kernel
theorem dL_law_692 : decode cL_law 692 = .ok (.laload, 1) := by decide +kernel
theorem dL_law_693 : decode cL_law 693 = .ok (.iload 7, 2) := by decide +kernel
theorem dL_law_695 : decode cL_law 695 = .ok (.i2l, 1) := by decide +kernel
theorem dL_law_696 : decode cL_law 696 = .ok (.lcmp, 1) := by decide +kernel
theorem dL_law_697 : decode cL_law 697 = .ok (.ifCond .eq 5, 3) := by decide +kernel
theorem dL_law_700 : decode cL_law 700 = .ok (.iconst 0, 1) := by decide +kernel
theorem dL_law_701 : decode cL_law 701 = .ok (.ireturn, 1) := by decide +kernel
theorem dL_law_702 : decode cL_law 702 = .ok (.goto 1073, 3) := by decide +kernel
theorem dL_law_705 : decode cL_law 705 = .ok (.aload_n 1, 1) := by decide +kernel
theorem dL_law_706 : decode cL_law 706 = .ok (.invokevirtual 122, 3) := by decide +kernel
theorem dL_law_709 : decode cL_law 709 = .ok (.aload_n 2, 1) := by decide +kernel
theorem dL_law_710 : decode cL_law 710 = .ok (.invokevirtual 125, 3) := by decide +kernel
theorem dL_law_713 : decode cL_law 713 = .ok (.if_icmp .eq 1062, 3) := by decide +kernel
theorem dL_law_716 : decode cL_law 716 = .ok (.iconst 0, 1) := by decide +kernel
theorem dL_law_717 : decode cL_law 717 = .ok (.ireturn, 1) := by decide +kernel
theorem dL_law_718 : decode cL_law 718 = .ok (.aload_n 1, 1) := by decide +kernel
theorem dL_law_719 : decode cL_law 719 = .ok (.invokevirtual 126, 3) := by decide +kernel
theorem dL_law_722 : decode cL_law 722 = .ok (.aload_n 2, 1) := by decide +kernel
theorem dL_law_723 : decode cL_law 723 = .ok (.invokevirtual 129, 3) := by decide +kernel
theorem dL_law_726 : decode cL_law 726 = .ok (.if_icmp .eq 1049, 3) := by decide +kernel
theorem dL_law_729 : decode cL_law 729 = .ok (.iconst 0, 1) := by decide +kernel
theorem dL_law_730 : decode cL_law 730 = .ok (.ireturn, 1) := by decide +kernel
theorem dL_law_731 : decode cL_law 731 = .ok (.aload_n 1, 1) := by decide +kernel
theorem dL_law_732 : decode cL_law 732 = .ok (.aload_n 0, 1) := by decide +kernel
theorem dL_law_733 : decode cL_law 733 = .ok (.iload 5, 2) := by decide +kernel
theorem dL_law_735 : decode cL_law 735 = .ok (.iconst 1, 1) := by decide +kernel
theorem dL_law_736 : decode cL_law 736 = .ok (.iadd, 1) := by decide +kernel
theorem dL_law_737 : decode cL_law 737 = .ok (.iaload, 1) := by decide +kernel
theorem dL_law_738 : decode cL_law 738 = .ok (.aload_n 0, 1) := by decide +kernel
theorem dL_law_739 : decode cL_law 739 = .ok (.iload 5, 2) := by decide +kernel
theorem dL_law_741 : decode cL_law 741 = .ok (.iconst 2, 1) := by decide +kernel
theorem dL_law_742 : decode cL_law 742 = .ok (.iadd, 1) := by decide +kernel
theorem dL_law_743 : decode cL_law 743 = .ok (.iaload, 1) := by decide +kernel
theorem dL_law_744 : decode cL_law 744 = .ok (.aload_n 3, 1) := by decide +kernel
theorem dL_law_745 : decode cL_law 745 = .ok (.invokestatic 130, 3) := by decide +kernel
theorem dL_law_748 : decode cL_law 748 = .ok (.istore 6, 2) := by decide +kernel
theorem dL_law_750 : decode cL_law 750 = .ok (.aload_n 2, 1) := by decide +kernel
theorem dL_law_751 : decode cL_law 751 = .ok (.aload_n 0, 1) := by decide +kernel
theorem dL_law_752 : decode cL_law 752 = .ok (.iload 5, 2) := by decide +kernel
theorem dL_law_754 : decode cL_law 754 = .ok (.iconst 1, 1) := by decide +kernel
theorem dL_law_755 : decode cL_law 755 = .ok (.iadd, 1) := by decide +kernel
theorem dL_law_756 : decode cL_law 756 = .ok (.iaload, 1) := by decide +kernel
theorem dL_law_757 : decode cL_law 757 = .ok (.aload_n 0, 1) := by decide +kernel
theorem dL_law_758 : decode cL_law 758 = .ok (.iload 5, 2) := by decide +kernel
theorem dL_law_760 : decode cL_law 760 = .ok (.iconst 2, 1) := by decide +kernel
theorem dL_law_761 : decode cL_law 761 = .ok (.iadd, 1) := by decide +kernel
theorem dL_law_762 : decode cL_law 762 = .ok (.iaload, 1) := by decide +kernel
theorem dL_law_763 : decode cL_law 763 = .ok (.invokevirtual 132, 3) := by decide +kernel
theorem dL_law_766 : decode cL_law 766 = .ok (.istore 7, 2) := by decide +kernel
theorem dL_law_768 : decode cL_law 768 = .ok (.aload_n 2, 1) := by decide +kernel
theorem dL_law_769 : decode cL_law 769 = .ok (.invokevirtual 93, 3) := by decide +kernel
theorem dL_law_772 : decode cL_law 772 = .ok (.iload 6, 2) := by decide +kernel
theorem dL_law_774 : decode cL_law 774 = .ok (.if_icmp .eq 5, 3) := by decide +kernel
theorem dL_law_777 : decode cL_law 777 = .ok (.iconst 0, 1) := by decide +kernel
theorem dL_law_778 : decode cL_law 778 = .ok (.ireturn, 1) := by decide +kernel
theorem dL_law_779 : decode cL_law 779 = .ok (.iload 6, 2) := by decide +kernel
theorem dL_law_781 : decode cL_law 781 = .ok (.ifCond .ne 15, 3) := by decide +kernel
theorem dL_law_784 : decode cL_law 784 = .ok (.aload_n 3, 1) := by decide +kernel
theorem dL_law_785 : decode cL_law 785 = .ok (.iconst 0, 1) := by decide +kernel
theorem dL_law_786 : decode cL_law 786 = .ok (.laload, 1) := by decide +kernel
theorem dL_law_787 : decode cL_law 787 = .ok (.iload 7, 2) := by decide +kernel
theorem dL_law_789 : decode cL_law 789 = .ok (.i2l, 1) := by decide +kernel
theorem dL_law_790 : decode cL_law 790 = .ok (.lcmp, 1) := by decide +kernel
theorem dL_law_791 : decode cL_law 791 = .ok (.ifCond .eq 5, 3) := by decide +kernel
theorem dL_law_794 : decode cL_law 794 = .ok (.iconst 0, 1) := by decide +kernel
theorem dL_law_795 : decode cL_law 795 = .ok (.ireturn, 1) := by decide +kernel
theorem dL_law_796 : decode cL_law 796 = .ok (.goto 979, 3) := by decide +kernel
theorem dL_law_799 : decode cL_law 799 = .ok (.aload_n 1, 1) := by decide +kernel
theorem dL_law_800 : decode cL_law 800 = .ok (.aload_n 0, 1) := by decide +kernel
theorem dL_law_801 : decode cL_law 801 = .ok (.iload 5, 2) := by decide +kernel
theorem dL_law_803 : decode cL_law 803 = .ok (.iconst 1, 1) := by decide +kernel
theorem dL_law_804 : decode cL_law 804 = .ok (.iadd, 1) := by decide +kernel
theorem dL_law_805 : decode cL_law 805 = .ok (.iaload, 1) := by decide +kernel
theorem dL_law_806 : decode cL_law 806 = .ok (.aload_n 0, 1) := by decide +kernel
theorem dL_law_807 : decode cL_law 807 = .ok (.iload 5, 2) := by decide +kernel
theorem dL_law_809 : decode cL_law 809 = .ok (.iconst 2, 1) := by decide +kernel
theorem dL_law_810 : decode cL_law 810 = .ok (.iadd, 1) := by decide +kernel
theorem dL_law_811 : decode cL_law 811 = .ok (.iaload, 1) := by decide +kernel
theorem dL_law_812 : decode cL_law 812 = .ok (.aload_n 3, 1) := by decide +kernel
theorem dL_law_813 : decode cL_law 813 = .ok (.invokestatic 133, 3) := by decide +kernel
theorem dL_law_816 : decode cL_law 816 = .ok (.istore 6, 2) := by decide +kernel
theorem dL_law_818 : decode cL_law 818 = .ok (.aload_n 2, 1) := by decide +kernel
theorem dL_law_819 : decode cL_law 819 = .ok (.aload_n 0, 1) := by decide +kernel
theorem dL_law_820 : decode cL_law 820 = .ok (.iload 5, 2) := by decide +kernel
theorem dL_law_822 : decode cL_law 822 = .ok (.iconst 1, 1) := by decide +kernel
theorem dL_law_823 : decode cL_law 823 = .ok (.iadd, 1) := by decide +kernel
theorem dL_law_824 : decode cL_law 824 = .ok (.iaload, 1) := by decide +kernel
theorem dL_law_825 : decode cL_law 825 = .ok (.aload_n 0, 1) := by decide +kernel
theorem dL_law_826 : decode cL_law 826 = .ok (.iload 5, 2) := by decide +kernel
theorem dL_law_828 : decode cL_law 828 = .ok (.iconst 2, 1) := by decide +kernel
theorem dL_law_829 : decode cL_law 829 = .ok (.iadd, 1) := by decide +kernel
theorem dL_law_830 : decode cL_law 830 = .ok (.iaload, 1) := by decide +kernel
theorem dL_law_831 : decode cL_law 831 = .ok (.invokevirtual 135, 3) := by decide +kernel
theorem dL_law_834 : decode cL_law 834 = .ok (.istore 7, 2) := by decide +kernel
theorem dL_law_836 : decode cL_law 836 = .ok (.aload_n 2, 1) := by decide +kernel
theorem dL_law_837 : decode cL_law 837 = .ok (.invokevirtual 93, 3) := by decide +kernel
theorem dL_law_840 : decode cL_law 840 = .ok (.iload 6, 2) := by decide +kernel
theorem dL_law_842 : decode cL_law 842 = .ok (.if_icmp .eq 5, 3) := by decide +kernel
theorem dL_law_845 : decode cL_law 845 = .ok (.iconst 0, 1) := by decide +kernel
theorem dL_law_846 : decode cL_law 846 = .ok (.ireturn, 1) := by decide +kernel
theorem dL_law_847 : decode cL_law 847 = .ok (.iload 6, 2) := by decide +kernel
theorem dL_law_849 : decode cL_law 849 = .ok (.ifCond .ne 15, 3) := by decide +kernel
theorem dL_law_852 : decode cL_law 852 = .ok (.aload_n 3, 1) := by decide +kernel
theorem dL_law_853 : decode cL_law 853 = .ok (.iconst 0, 1) := by decide +kernel
theorem dL_law_854 : decode cL_law 854 = .ok (.laload, 1) := by decide +kernel
theorem dL_law_855 : decode cL_law 855 = .ok (.iload 7, 2) := by decide +kernel
theorem dL_law_857 : decode cL_law 857 = .ok (.i2l, 1) := by decide +kernel
theorem dL_law_858 : decode cL_law 858 = .ok (.lcmp, 1) := by decide +kernel
theorem dL_law_859 : decode cL_law 859 = .ok (.ifCond .eq 5, 3) := by decide +kernel
theorem dL_law_862 : decode cL_law 862 = .ok (.iconst 0, 1) := by decide +kernel
theorem dL_law_863 : decode cL_law 863 = .ok (.ireturn, 1) := by decide +kernel
theorem dL_law_864 : decode cL_law 864 = .ok (.goto 911, 3) := by decide +kernel
theorem dL_law_867 : decode cL_law 867 = .ok (.aload_n 1, 1) := by decide +kernel
theorem dL_law_868 : decode cL_law 868 = .ok (.aload_n 0, 1) := by decide +kernel
theorem dL_law_869 : decode cL_law 869 = .ok (.iload 5, 2) := by decide +kernel
theorem dL_law_871 : decode cL_law 871 = .ok (.iconst 1, 1) := by decide +kernel
theorem dL_law_872 : decode cL_law 872 = .ok (.iadd, 1) := by decide +kernel
theorem dL_law_873 : decode cL_law 873 = .ok (.iaload, 1) := by decide +kernel
theorem dL_law_874 : decode cL_law 874 = .ok (.aload_n 0, 1) := by decide +kernel
theorem dL_law_875 : decode cL_law 875 = .ok (.iload 5, 2) := by decide +kernel
theorem dL_law_877 : decode cL_law 877 = .ok (.iconst 2, 1) := by decide +kernel
theorem dL_law_878 : decode cL_law 878 = .ok (.iadd, 1) := by decide +kernel
theorem dL_law_879 : decode cL_law 879 = .ok (.iaload, 1) := by decide +kernel
theorem dL_law_880 : decode cL_law 880 = .ok (.aload_n 0, 1) := by decide +kernel
theorem dL_law_881 : decode cL_law 881 = .ok (.iload 5, 2) := by decide +kernel
theorem dL_law_883 : decode cL_law 883 = .ok (.iconst 3, 1) := by decide +kernel
theorem dL_law_884 : decode cL_law 884 = .ok (.iadd, 1) := by decide +kernel
theorem dL_law_885 : decode cL_law 885 = .ok (.iaload, 1) := by decide +kernel
theorem dL_law_886 : decode cL_law 886 = .ok (.aload_n 0, 1) := by decide +kernel
theorem dL_law_887 : decode cL_law 887 = .ok (.iload 5, 2) := by decide +kernel
theorem dL_law_889 : decode cL_law 889 = .ok (.iconst 4, 1) := by decide +kernel
theorem dL_law_890 : decode cL_law 890 = .ok (.iadd, 1) := by decide +kernel
theorem dL_law_891 : decode cL_law 891 = .ok (.iaload, 1) := by decide +kernel
theorem dL_law_892 : decode cL_law 892 = .ok (.ifCond .eq 7, 3) := by decide +kernel
theorem dL_law_895 : decode cL_law 895 = .ok (.iconst 1, 1) := by decide +kernel
theorem dL_law_896 : decode cL_law 896 = .ok (.goto 4, 3) := by decide +kernel
theorem dL_law_899 : decode cL_law 899 = .ok (.iconst 0, 1) := by decide +kernel
theorem dL_law_900 : decode cL_law 900 = .ok (.aload_n 3, 1) := by decide +kernel
theorem dL_law_901 : decode cL_law 901 = .ok (.invokestatic 136, 3) := by decide +kernel
theorem dL_law_904 : decode cL_law 904 = .ok (.istore 6, 2) := by decide +kernel
theorem dL_law_906 : decode cL_law 906 = .ok (.aload_n 2, 1) := by decide +kernel
theorem dL_law_907 : decode cL_law 907 = .ok (.aload_n 0, 1) := by decide +kernel
theorem dL_law_908 : decode cL_law 908 = .ok (.iload 5, 2) := by decide +kernel
theorem dL_law_910 : decode cL_law 910 = .ok (.iconst 1, 1) := by decide +kernel
theorem dL_law_911 : decode cL_law 911 = .ok (.iadd, 1) := by decide +kernel
theorem dL_law_912 : decode cL_law 912 = .ok (.iaload, 1) := by decide +kernel
theorem dL_law_913 : decode cL_law 913 = .ok (.aload_n 0, 1) := by decide +kernel
theorem dL_law_914 : decode cL_law 914 = .ok (.iload 5, 2) := by decide +kernel
theorem dL_law_916 : decode cL_law 916 = .ok (.iconst 2, 1) := by decide +kernel
theorem dL_law_917 : decode cL_law 917 = .ok (.iadd, 1) := by decide +kernel
theorem dL_law_918 : decode cL_law 918 = .ok (.iaload, 1) := by decide +kernel
theorem dL_law_919 : decode cL_law 919 = .ok (.aload_n 0, 1) := by decide +kernel
theorem dL_law_920 : decode cL_law 920 = .ok (.iload 5, 2) := by decide +kernel
theorem dL_law_922 : decode cL_law 922 = .ok (.iconst 3, 1) := by decide +kernel
theorem dL_law_923 : decode cL_law 923 = .ok (.iadd, 1) := by decide +kernel
theorem dL_law_924 : decode cL_law 924 = .ok (.iaload, 1) := by decide +kernel
theorem dL_law_925 : decode cL_law 925 = .ok (.aload_n 0, 1) := by decide +kernel
theorem dL_law_926 : decode cL_law 926 = .ok (.iload 5, 2) := by decide +kernel
theorem dL_law_928 : decode cL_law 928 = .ok (.iconst 4, 1) := by decide +kernel
theorem dL_law_929 : decode cL_law 929 = .ok (.iadd, 1) := by decide +kernel
theorem dL_law_930 : decode cL_law 930 = .ok (.iaload, 1) := by decide +kernel
theorem dL_law_931 : decode cL_law 931 = .ok (.ifCond .eq 7, 3) := by decide +kernel
theorem dL_law_934 : decode cL_law 934 = .ok (.iconst 1, 1) := by decide +kernel
theorem dL_law_935 : decode cL_law 935 = .ok (.goto 4, 3) := by decide +kernel
theorem dL_law_938 : decode cL_law 938 = .ok (.iconst 0, 1) := by decide +kernel
theorem dL_law_939 : decode cL_law 939 = .ok (.invokevirtual 139, 3) := by decide +kernel
theorem dL_law_942 : decode cL_law 942 = .ok (.istore 7, 2) := by decide +kernel
theorem dL_law_944 : decode cL_law 944 = .ok (.aload_n 2, 1) := by decide +kernel
theorem dL_law_945 : decode cL_law 945 = .ok (.invokevirtual 93, 3) := by decide +kernel
theorem dL_law_948 : decode cL_law 948 = .ok (.iload 6, 2) := by decide +kernel
theorem dL_law_950 : decode cL_law 950 = .ok (.if_icmp .eq 5, 3) := by decide +kernel
theorem dL_law_953 : decode cL_law 953 = .ok (.iconst 0, 1) := by decide +kernel
theorem dL_law_954 : decode cL_law 954 = .ok (.ireturn, 1) := by decide +kernel
theorem dL_law_955 : decode cL_law 955 = .ok (.iload 6, 2) := by decide +kernel
theorem dL_law_957 : decode cL_law 957 = .ok (.ifCond .ne 15, 3) := by decide +kernel
theorem dL_law_960 : decode cL_law 960 = .ok (.aload_n 3, 1) := by decide +kernel
theorem dL_law_961 : decode cL_law 961 = .ok (.iconst 0, 1) := by decide +kernel
theorem dL_law_962 : decode cL_law 962 = .ok (.laload, 1) := by decide +kernel
theorem dL_law_963 : decode cL_law 963 = .ok (.iload 7, 2) := by decide +kernel
theorem dL_law_965 : decode cL_law 965 = .ok (.i2l, 1) := by decide +kernel
theorem dL_law_966 : decode cL_law 966 = .ok (.lcmp, 1) := by decide +kernel
theorem dL_law_967 : decode cL_law 967 = .ok (.ifCond .eq 5, 3) := by decide +kernel
theorem dL_law_970 : decode cL_law 970 = .ok (.iconst 0, 1) := by decide +kernel
theorem dL_law_971 : decode cL_law 971 = .ok (.ireturn, 1) := by decide +kernel
theorem dL_law_972 : decode cL_law 972 = .ok (.goto 803, 3) := by decide +kernel
theorem dL_law_975 : decode cL_law 975 = .ok (.aload_n 1, 1) := by decide +kernel
theorem dL_law_976 : decode cL_law 976 = .ok (.aload_n 0, 1) := by decide +kernel
theorem dL_law_977 : decode cL_law 977 = .ok (.iload 5, 2) := by decide +kernel
theorem dL_law_979 : decode cL_law 979 = .ok (.iconst 1, 1) := by decide +kernel
theorem dL_law_980 : decode cL_law 980 = .ok (.iadd, 1) := by decide +kernel
theorem dL_law_981 : decode cL_law 981 = .ok (.iaload, 1) := by decide +kernel
theorem dL_law_982 : decode cL_law 982 = .ok (.aload_n 3, 1) := by decide +kernel
theorem dL_law_983 : decode cL_law 983 = .ok (.invokestatic 140, 3) := by decide +kernel
theorem dL_law_986 : decode cL_law 986 = .ok (.istore 6, 2) := by decide +kernel
theorem dL_law_988 : decode cL_law 988 = .ok (.aload_n 2, 1) := by decide +kernel
theorem dL_law_989 : decode cL_law 989 = .ok (.aload_n 0, 1) := by decide +kernel
theorem dL_law_990 : decode cL_law 990 = .ok (.iload 5, 2) := by decide +kernel
theorem dL_law_992 : decode cL_law 992 = .ok (.iconst 1, 1) := by decide +kernel
theorem dL_law_993 : decode cL_law 993 = .ok (.iadd, 1) := by decide +kernel
theorem dL_law_994 : decode cL_law 994 = .ok (.iaload, 1) := by decide +kernel
theorem dL_law_995 : decode cL_law 995 = .ok (.invokevirtual 142, 3) := by decide +kernel
theorem dL_law_998 : decode cL_law 998 = .ok (.istore 7, 2) := by decide +kernel
theorem dL_law_1000 : decode cL_law 1000 = .ok (.aload_n 2, 1) := by decide +kernel
theorem dL_law_1001 : decode cL_law 1001 = .ok (.invokevirtual 93, 3) := by decide +kernel
theorem dL_law_1004 : decode cL_law 1004 = .ok (.iload 6, 2) := by decide +kernel
theorem dL_law_1006 : decode cL_law 1006 = .ok (.if_icmp .eq 5, 3) := by decide +kernel
theorem dL_law_1009 : decode cL_law 1009 = .ok (.iconst 0, 1) := by decide +kernel
theorem dL_law_1010 : decode cL_law 1010 = .ok (.ireturn, 1) := by decide +kernel
theorem dL_law_1011 : decode cL_law 1011 = .ok (.iload 6, 2) := by decide +kernel
theorem dL_law_1013 : decode cL_law 1013 = .ok (.ifCond .ne 15, 3) := by decide +kernel
theorem dL_law_1016 : decode cL_law 1016 = .ok (.aload_n 3, 1) := by decide +kernel
theorem dL_law_1017 : decode cL_law 1017 = .ok (.iconst 0, 1) := by decide +kernel
theorem dL_law_1018 : decode cL_law 1018 = .ok (.laload, 1) := by decide +kernel
theorem dL_law_1019 : decode cL_law 1019 = .ok (.iload 7, 2) := by decide +kernel
theorem dL_law_1021 : decode cL_law 1021 = .ok (.i2l, 1) := by decide +kernel
theorem dL_law_1022 : decode cL_law 1022 = .ok (.lcmp, 1) := by decide +kernel
theorem dL_law_1023 : decode cL_law 1023 = .ok (.ifCond .eq 5, 3) := by decide +kernel
theorem dL_law_1026 : decode cL_law 1026 = .ok (.iconst 0, 1) := by decide +kernel
theorem dL_law_1027 : decode cL_law 1027 = .ok (.ireturn, 1) := by decide +kernel
theorem dL_law_1028 : decode cL_law 1028 = .ok (.goto 747, 3) := by decide +kernel
theorem dL_law_1031 : decode cL_law 1031 = .ok (.aload_n 1, 1) := by decide +kernel
theorem dL_law_1032 : decode cL_law 1032 = .ok (.invokevirtual 143, 3) := by decide +kernel
theorem dL_law_1035 : decode cL_law 1035 = .ok (.aload_n 2, 1) := by decide +kernel
theorem dL_law_1036 : decode cL_law 1036 = .ok (.invokevirtual 146, 3) := by decide +kernel
theorem dL_law_1039 : decode cL_law 1039 = .ok (.if_icmp .eq 736, 3) := by decide +kernel
theorem dL_law_1042 : decode cL_law 1042 = .ok (.iconst 0, 1) := by decide +kernel
theorem dL_law_1043 : decode cL_law 1043 = .ok (.ireturn, 1) := by decide +kernel
theorem dL_law_1044 : decode cL_law 1044 = .ok (.aload_n 1, 1) := by decide +kernel
theorem dL_law_1045 : decode cL_law 1045 = .ok (.invokevirtual 147, 3) := by decide +kernel
theorem dL_law_1048 : decode cL_law 1048 = .ok (.aload_n 2, 1) := by decide +kernel
theorem dL_law_1049 : decode cL_law 1049 = .ok (.invokevirtual 150, 3) := by decide +kernel
theorem dL_law_1052 : decode cL_law 1052 = .ok (.if_icmp .eq 723, 3) := by decide +kernel
theorem dL_law_1055 : decode cL_law 1055 = .ok (.iconst 0, 1) := by decide +kernel
theorem dL_law_1056 : decode cL_law 1056 = .ok (.ireturn, 1) := by decide +kernel
theorem dL_law_1057 : decode cL_law 1057 = .ok (.aload_n 1, 1) := by decide +kernel
theorem dL_law_1058 : decode cL_law 1058 = .ok (.aload_n 0, 1) := by decide +kernel
theorem dL_law_1059 : decode cL_law 1059 = .ok (.iload 5, 2) := by decide +kernel
theorem dL_law_1061 : decode cL_law 1061 = .ok (.iconst 1, 1) := by decide +kernel
theorem dL_law_1062 : decode cL_law 1062 = .ok (.iadd, 1) := by decide +kernel
theorem dL_law_1063 : decode cL_law 1063 = .ok (.iaload, 1) := by decide +kernel
theorem dL_law_1064 : decode cL_law 1064 = .ok (.aload 4, 2) := by decide +kernel
theorem dL_law_1066 : decode cL_law 1066 = .ok (.invokestatic 151, 3) := by decide +kernel
theorem dL_law_1069 : decode cL_law 1069 = .ok (.istore 6, 2) := by decide +kernel
theorem dL_law_1071 : decode cL_law 1071 = .ok (.aload_n 2, 1) := by decide +kernel
theorem dL_law_1072 : decode cL_law 1072 = .ok (.aload_n 0, 1) := by decide +kernel
theorem dL_law_1073 : decode cL_law 1073 = .ok (.iload 5, 2) := by decide +kernel
theorem dL_law_1075 : decode cL_law 1075 = .ok (.iconst 1, 1) := by decide +kernel
theorem dL_law_1076 : decode cL_law 1076 = .ok (.iadd, 1) := by decide +kernel
theorem dL_law_1077 : decode cL_law 1077 = .ok (.iaload, 1) := by decide +kernel
theorem dL_law_1078 : decode cL_law 1078 = .ok (.invokevirtual 154, 3) := by decide +kernel
theorem dL_law_1081 : decode cL_law 1081 = .ok (.dstore 7, 2) := by decide +kernel
theorem dL_law_1083 : decode cL_law 1083 = .ok (.aload_n 2, 1) := by decide +kernel
theorem dL_law_1084 : decode cL_law 1084 = .ok (.invokevirtual 93, 3) := by decide +kernel
theorem dL_law_1087 : decode cL_law 1087 = .ok (.iload 6, 2) := by decide +kernel
theorem dL_law_1089 : decode cL_law 1089 = .ok (.if_icmp .eq 5, 3) := by decide +kernel
theorem dL_law_1092 : decode cL_law 1092 = .ok (.iconst 0, 1) := by decide +kernel
theorem dL_law_1093 : decode cL_law 1093 = .ok (.ireturn, 1) := by decide +kernel
theorem dL_law_1094 : decode cL_law 1094 = .ok (.iload 6, 2) := by decide +kernel
theorem dL_law_1096 : decode cL_law 1096 = .ok (.ifCond .ne 35, 3) := by decide +kernel
theorem dL_law_1099 : decode cL_law 1099 = .ok (.aload 4, 2) := by decide +kernel
theorem dL_law_1101 : decode cL_law 1101 = .ok (.iconst 0, 1) := by decide +kernel
theorem dL_law_1102 : decode cL_law 1102 = .ok (.daload, 1) := by decide +kernel
theorem dL_law_1103 : decode cL_law 1103 = .ok (.dload 7, 2) := by decide +kernel
theorem dL_law_1105 : decode cL_law 1105 = .ok (.dcmp .l, 1) := by decide +kernel
theorem dL_law_1106 : decode cL_law 1106 = .ok (.ifCond .eq 25, 3) := by decide +kernel
theorem dL_law_1109 : decode cL_law 1109 = .ok (.aload 4, 2) := by decide +kernel
theorem dL_law_1111 : decode cL_law 1111 = .ok (.iconst 0, 1) := by decide +kernel
theorem dL_law_1112 : decode cL_law 1112 = .ok (.daload, 1) := by decide +kernel
theorem dL_law_1113 : decode cL_law 1113 = .ok (.aload 4, 2) := by decide +kernel
theorem dL_law_1115 : decode cL_law 1115 = .ok (.iconst 0, 1) := by decide +kernel
theorem dL_law_1116 : decode cL_law 1116 = .ok (.daload, 1) := by decide +kernel
theorem dL_law_1117 : decode cL_law 1117 = .ok (.dcmp .l, 1) := by decide +kernel
theorem dL_law_1118 : decode cL_law 1118 = .ok (.ifCond .eq 11, 3) := by decide +kernel
theorem dL_law_1121 : decode cL_law 1121 = .ok (.dload 7, 2) := by decide +kernel
theorem dL_law_1123 : decode cL_law 1123 = .ok (.dload 7, 2) := by decide +kernel
theorem dL_law_1125 : decode cL_law 1125 = .ok (.dcmp .l, 1) := by decide +kernel
theorem dL_law_1126 : decode cL_law 1126 = .ok (.ifCond .ne 5, 3) := by decide +kernel
theorem dL_law_1129 : decode cL_law 1129 = .ok (.iconst 0, 1) := by decide +kernel
theorem dL_law_1130 : decode cL_law 1130 = .ok (.ireturn, 1) := by decide +kernel
theorem dL_law_1131 : decode cL_law 1131 = .ok (.goto 644, 3) := by decide +kernel
theorem dL_law_1134 : decode cL_law 1134 = .ok (.aload_n 1, 1) := by decide +kernel
theorem dL_law_1135 : decode cL_law 1135 = .ok (.aload_n 0, 1) := by decide +kernel
theorem dL_law_1136 : decode cL_law 1136 = .ok (.iload 5, 2) := by decide +kernel
theorem dL_law_1138 : decode cL_law 1138 = .ok (.iconst 1, 1) := by decide +kernel
theorem dL_law_1139 : decode cL_law 1139 = .ok (.iadd, 1) := by decide +kernel
theorem dL_law_1140 : decode cL_law 1140 = .ok (.iaload, 1) := by decide +kernel
theorem dL_law_1141 : decode cL_law 1141 = .ok (.aload_n 0, 1) := by decide +kernel
theorem dL_law_1142 : decode cL_law 1142 = .ok (.iload 5, 2) := by decide +kernel
theorem dL_law_1144 : decode cL_law 1144 = .ok (.iconst 2, 1) := by decide +kernel
theorem dL_law_1145 : decode cL_law 1145 = .ok (.iadd, 1) := by decide +kernel
theorem dL_law_1146 : decode cL_law 1146 = .ok (.iaload, 1) := by decide +kernel
theorem dL_law_1147 : decode cL_law 1147 = .ok (.ifCond .eq 7, 3) := by decide +kernel
theorem dL_law_1150 : decode cL_law 1150 = .ok (.iconst 1, 1) := by decide +kernel
theorem dL_law_1151 : decode cL_law 1151 = .ok (.goto 4, 3) := by decide +kernel
theorem dL_law_1154 : decode cL_law 1154 = .ok (.iconst 0, 1) := by decide +kernel
theorem dL_law_1155 : decode cL_law 1155 = .ok (.aload_n 0, 1) := by decide +kernel
theorem dL_law_1156 : decode cL_law 1156 = .ok (.iload 5, 2) := by decide +kernel
theorem dL_law_1158 : decode cL_law 1158 = .ok (.iconst 3, 1) := by decide +kernel
theorem dL_law_1159 : decode cL_law 1159 = .ok (.iadd, 1) := by decide +kernel
theorem dL_law_1160 : decode cL_law 1160 = .ok (.iaload, 1) := by decide +kernel
theorem dL_law_1161 : decode cL_law 1161 = .ok (.ifCond .eq 7, 3) := by decide +kernel
theorem dL_law_1164 : decode cL_law 1164 = .ok (.iconst 1, 1) := by decide +kernel
theorem dL_law_1165 : decode cL_law 1165 = .ok (.goto 4, 3) := by decide +kernel
theorem dL_law_1168 : decode cL_law 1168 = .ok (.iconst 0, 1) := by decide +kernel
theorem dL_law_1169 : decode cL_law 1169 = .ok (.aload_n 3, 1) := by decide +kernel
theorem dL_law_1170 : decode cL_law 1170 = .ok (.invokestatic 155, 3) := by decide +kernel
theorem dL_law_1173 : decode cL_law 1173 = .ok (.istore 6, 2) := by decide +kernel
theorem dL_law_1175 : decode cL_law 1175 = .ok (.aload_n 2, 1) := by decide +kernel
theorem dL_law_1176 : decode cL_law 1176 = .ok (.aload_n 0, 1) := by decide +kernel
theorem dL_law_1177 : decode cL_law 1177 = .ok (.iload 5, 2) := by decide +kernel
theorem dL_law_1179 : decode cL_law 1179 = .ok (.iconst 1, 1) := by decide +kernel
theorem dL_law_1180 : decode cL_law 1180 = .ok (.iadd, 1) := by decide +kernel
theorem dL_law_1181 : decode cL_law 1181 = .ok (.iaload, 1) := by decide +kernel
theorem dL_law_1182 : decode cL_law 1182 = .ok (.aload_n 0, 1) := by decide +kernel
theorem dL_law_1183 : decode cL_law 1183 = .ok (.iload 5, 2) := by decide +kernel
theorem dL_law_1185 : decode cL_law 1185 = .ok (.iconst 2, 1) := by decide +kernel
theorem dL_law_1186 : decode cL_law 1186 = .ok (.iadd, 1) := by decide +kernel
theorem dL_law_1187 : decode cL_law 1187 = .ok (.iaload, 1) := by decide +kernel
theorem dL_law_1188 : decode cL_law 1188 = .ok (.ifCond .eq 7, 3) := by decide +kernel
theorem dL_law_1191 : decode cL_law 1191 = .ok (.iconst 1, 1) := by decide +kernel
theorem dL_law_1192 : decode cL_law 1192 = .ok (.goto 4, 3) := by decide +kernel
theorem dL_law_1195 : decode cL_law 1195 = .ok (.iconst 0, 1) := by decide +kernel
theorem dL_law_1196 : decode cL_law 1196 = .ok (.aload_n 0, 1) := by decide +kernel
theorem dL_law_1197 : decode cL_law 1197 = .ok (.iload 5, 2) := by decide +kernel
theorem dL_law_1199 : decode cL_law 1199 = .ok (.iconst 3, 1) := by decide +kernel
theorem dL_law_1200 : decode cL_law 1200 = .ok (.iadd, 1) := by decide +kernel
theorem dL_law_1201 : decode cL_law 1201 = .ok (.iaload, 1) := by decide +kernel
theorem dL_law_1202 : decode cL_law 1202 = .ok (.ifCond .eq 7, 3) := by decide +kernel
theorem dL_law_1205 : decode cL_law 1205 = .ok (.iconst 1, 1) := by decide +kernel
theorem dL_law_1206 : decode cL_law 1206 = .ok (.goto 4, 3) := by decide +kernel
theorem dL_law_1209 : decode cL_law 1209 = .ok (.iconst 0, 1) := by decide +kernel
theorem dL_law_1210 : decode cL_law 1210 = .ok (.invokevirtual 158, 3) := by decide +kernel
theorem dL_law_1213 : decode cL_law 1213 = .ok (.istore 7, 2) := by decide +kernel
theorem dL_law_1215 : decode cL_law 1215 = .ok (.aload_n 2, 1) := by decide +kernel
theorem dL_law_1216 : decode cL_law 1216 = .ok (.invokevirtual 93, 3) := by decide +kernel
theorem dL_law_1219 : decode cL_law 1219 = .ok (.iload 6, 2) := by decide +kernel
theorem dL_law_1221 : decode cL_law 1221 = .ok (.if_icmp .eq 5, 3) := by decide +kernel
theorem dL_law_1224 : decode cL_law 1224 = .ok (.iconst 0, 1) := by decide +kernel
theorem dL_law_1225 : decode cL_law 1225 = .ok (.ireturn, 1) := by decide +kernel
theorem dL_law_1226 : decode cL_law 1226 = .ok (.iload 6, 2) := by decide +kernel
theorem dL_law_1228 : decode cL_law 1228 = .ok (.ifCond .ne 15, 3) := by decide +kernel
theorem dL_law_1231 : decode cL_law 1231 = .ok (.aload_n 3, 1) := by decide +kernel
theorem dL_law_1232 : decode cL_law 1232 = .ok (.iconst 0, 1) := by decide +kernel
theorem dL_law_1233 : decode cL_law 1233 = .ok (.laload, 1) := by decide +kernel
theorem dL_law_1234 : decode cL_law 1234 = .ok (.iload 7, 2) := by decide +kernel
theorem dL_law_1236 : decode cL_law 1236 = .ok (.i2l, 1) := by decide +kernel
theorem dL_law_1237 : decode cL_law 1237 = .ok (.lcmp, 1) := by decide +kernel
theorem dL_law_1238 : decode cL_law 1238 = .ok (.ifCond .eq 5, 3) := by decide +kernel
theorem dL_law_1241 : decode cL_law 1241 = .ok (.iconst 0, 1) := by decide +kernel
theorem dL_law_1242 : decode cL_law 1242 = .ok (.ireturn, 1) := by decide +kernel
theorem dL_law_1243 : decode cL_law 1243 = .ok (.goto 532, 3) := by decide +kernel
theorem dL_law_1246 : decode cL_law 1246 = .ok (.aload_n 1, 1) := by decide +kernel
theorem dL_law_1247 : decode cL_law 1247 = .ok (.invokevirtual 159, 3) := by decide +kernel
theorem dL_law_1250 : decode cL_law 1250 = .ok (.aload_n 2, 1) := by decide +kernel
theorem dL_law_1251 : decode cL_law 1251 = .ok (.invokevirtual 162, 3) := by decide +kernel
theorem dL_law_1254 : decode cL_law 1254 = .ok (.if_icmp .eq 521, 3) := by decide +kernel
theorem dL_law_1257 : decode cL_law 1257 = .ok (.iconst 0, 1) := by decide +kernel
theorem dL_law_1258 : decode cL_law 1258 = .ok (.ireturn, 1) := by decide +kernel
theorem dL_law_1259 : decode cL_law 1259 = .ok (.aload_n 1, 1) := by decide +kernel
theorem dL_law_1260 : decode cL_law 1260 = .ok (.aload_n 0, 1) := by decide +kernel
theorem dL_law_1261 : decode cL_law 1261 = .ok (.iload 5, 2) := by decide +kernel
theorem dL_law_1263 : decode cL_law 1263 = .ok (.iconst 1, 1) := by decide +kernel
theorem dL_law_1264 : decode cL_law 1264 = .ok (.iadd, 1) := by decide +kernel
theorem dL_law_1265 : decode cL_law 1265 = .ok (.iaload, 1) := by decide +kernel
theorem dL_law_1266 : decode cL_law 1266 = .ok (.aload_n 0, 1) := by decide +kernel
theorem dL_law_1267 : decode cL_law 1267 = .ok (.iload 5, 2) := by decide +kernel
theorem dL_law_1269 : decode cL_law 1269 = .ok (.iconst 2, 1) := by decide +kernel
theorem dL_law_1270 : decode cL_law 1270 = .ok (.iadd, 1) := by decide +kernel
theorem dL_law_1271 : decode cL_law 1271 = .ok (.iaload, 1) := by decide +kernel
theorem dL_law_1272 : decode cL_law 1272 = .ok (.aload_n 3, 1) := by decide +kernel
theorem dL_law_1273 : decode cL_law 1273 = .ok (.invokestatic 163, 3) := by decide +kernel
theorem dL_law_1276 : decode cL_law 1276 = .ok (.istore 6, 2) := by decide +kernel
theorem dL_law_1278 : decode cL_law 1278 = .ok (.aload_n 2, 1) := by decide +kernel
theorem dL_law_1279 : decode cL_law 1279 = .ok (.aload_n 0, 1) := by decide +kernel
theorem dL_law_1280 : decode cL_law 1280 = .ok (.iload 5, 2) := by decide +kernel
theorem dL_law_1282 : decode cL_law 1282 = .ok (.iconst 1, 1) := by decide +kernel
theorem dL_law_1283 : decode cL_law 1283 = .ok (.iadd, 1) := by decide +kernel
theorem dL_law_1284 : decode cL_law 1284 = .ok (.iaload, 1) := by decide +kernel
theorem dL_law_1285 : decode cL_law 1285 = .ok (.aload_n 0, 1) := by decide +kernel
theorem dL_law_1286 : decode cL_law 1286 = .ok (.iload 5, 2) := by decide +kernel
theorem dL_law_1288 : decode cL_law 1288 = .ok (.iconst 2, 1) := by decide +kernel
theorem dL_law_1289 : decode cL_law 1289 = .ok (.iadd, 1) := by decide +kernel
theorem dL_law_1290 : decode cL_law 1290 = .ok (.iaload, 1) := by decide +kernel
theorem dL_law_1291 : decode cL_law 1291 = .ok (.invokevirtual 165, 3) := by decide +kernel
theorem dL_law_1294 : decode cL_law 1294 = .ok (.istore 7, 2) := by decide +kernel
theorem dL_law_1296 : decode cL_law 1296 = .ok (.aload_n 2, 1) := by decide +kernel
theorem dL_law_1297 : decode cL_law 1297 = .ok (.invokevirtual 93, 3) := by decide +kernel
theorem dL_law_1300 : decode cL_law 1300 = .ok (.iload 6, 2) := by decide +kernel
theorem dL_law_1302 : decode cL_law 1302 = .ok (.if_icmp .eq 5, 3) := by decide +kernel
theorem dL_law_1305 : decode cL_law 1305 = .ok (.iconst 0, 1) := by decide +kernel
theorem dL_law_1306 : decode cL_law 1306 = .ok (.ireturn, 1) := by decide +kernel
theorem dL_law_1307 : decode cL_law 1307 = .ok (.iload 6, 2) := by decide +kernel
theorem dL_law_1309 : decode cL_law 1309 = .ok (.ifCond .ne 15, 3) := by decide +kernel
theorem dL_law_1312 : decode cL_law 1312 = .ok (.aload_n 3, 1) := by decide +kernel
theorem dL_law_1313 : decode cL_law 1313 = .ok (.iconst 0, 1) := by decide +kernel
theorem dL_law_1314 : decode cL_law 1314 = .ok (.laload, 1) := by decide +kernel
theorem dL_law_1315 : decode cL_law 1315 = .ok (.iload 7, 2) := by decide +kernel
theorem dL_law_1317 : decode cL_law 1317 = .ok (.i2l, 1) := by decide +kernel
theorem dL_law_1318 : decode cL_law 1318 = .ok (.lcmp, 1) := by decide +kernel
theorem dL_law_1319 : decode cL_law 1319 = .ok (.ifCond .eq 5, 3) := by decide +kernel
theorem dL_law_1322 : decode cL_law 1322 = .ok (.iconst 0, 1) := by decide +kernel
theorem dL_law_1323 : decode cL_law 1323 = .ok (.ireturn, 1) := by decide +kernel
theorem dL_law_1324 : decode cL_law 1324 = .ok (.goto 451, 3) := by decide +kernel
theorem dL_law_1327 : decode cL_law 1327 = .ok (.aload_n 1, 1) := by decide +kernel
theorem dL_law_1328 : decode cL_law 1328 = .ok (.aload_n 0, 1) := by decide +kernel
theorem dL_law_1329 : decode cL_law 1329 = .ok (.iload 5, 2) := by decide +kernel
theorem dL_law_1331 : decode cL_law 1331 = .ok (.iconst 1, 1) := by decide +kernel
theorem dL_law_1332 : decode cL_law 1332 = .ok (.iadd, 1) := by decide +kernel
theorem dL_law_1333 : decode cL_law 1333 = .ok (.iaload, 1) := by decide +kernel
theorem dL_law_1334 : decode cL_law 1334 = .ok (.aload_n 3, 1) := by decide +kernel
theorem dL_law_1335 : decode cL_law 1335 = .ok (.invokestatic 166, 3) := by decide +kernel
theorem dL_law_1338 : decode cL_law 1338 = .ok (.istore 6, 2) := by decide +kernel
theorem dL_law_1340 : decode cL_law 1340 = .ok (.aload_n 2, 1) := by decide +kernel
theorem dL_law_1341 : decode cL_law 1341 = .ok (.aload_n 0, 1) := by decide +kernel
theorem dL_law_1342 : decode cL_law 1342 = .ok (.iload 5, 2) := by decide +kernel
theorem dL_law_1344 : decode cL_law 1344 = .ok (.iconst 1, 1) := by decide +kernel
theorem dL_law_1345 : decode cL_law 1345 = .ok (.iadd, 1) := by decide +kernel
theorem dL_law_1346 : decode cL_law 1346 = .ok (.iaload, 1) := by decide +kernel
theorem dL_law_1347 : decode cL_law 1347 = .ok (.invokevirtual 168, 3) := by decide +kernel
theorem dL_law_1350 : decode cL_law 1350 = .ok (.istore 7, 2) := by decide +kernel
theorem dL_law_1352 : decode cL_law 1352 = .ok (.aload_n 2, 1) := by decide +kernel
theorem dL_law_1353 : decode cL_law 1353 = .ok (.invokevirtual 93, 3) := by decide +kernel
theorem dL_law_1356 : decode cL_law 1356 = .ok (.iload 6, 2) := by decide +kernel
theorem dL_law_1358 : decode cL_law 1358 = .ok (.if_icmp .eq 5, 3) := by decide +kernel
theorem dL_law_1361 : decode cL_law 1361 = .ok (.iconst 0, 1) := by decide +kernel
theorem dL_law_1362 : decode cL_law 1362 = .ok (.ireturn, 1) := by decide +kernel
theorem dL_law_1363 : decode cL_law 1363 = .ok (.iload 6, 2) := by decide +kernel
theorem dL_law_1365 : decode cL_law 1365 = .ok (.ifCond .ne 15, 3) := by decide +kernel
theorem dL_law_1368 : decode cL_law 1368 = .ok (.aload_n 3, 1) := by decide +kernel
theorem dL_law_1369 : decode cL_law 1369 = .ok (.iconst 0, 1) := by decide +kernel
theorem dL_law_1370 : decode cL_law 1370 = .ok (.laload, 1) := by decide +kernel
theorem dL_law_1371 : decode cL_law 1371 = .ok (.iload 7, 2) := by decide +kernel
theorem dL_law_1373 : decode cL_law 1373 = .ok (.i2l, 1) := by decide +kernel
theorem dL_law_1374 : decode cL_law 1374 = .ok (.lcmp, 1) := by decide +kernel
theorem dL_law_1375 : decode cL_law 1375 = .ok (.ifCond .eq 5, 3) := by decide +kernel
theorem dL_law_1378 : decode cL_law 1378 = .ok (.iconst 0, 1) := by decide +kernel
theorem dL_law_1379 : decode cL_law 1379 = .ok (.ireturn, 1) := by decide +kernel
theorem dL_law_1380 : decode cL_law 1380 = .ok (.goto 395, 3) := by decide +kernel
theorem dL_law_1383 : decode cL_law 1383 = .ok (.aload_n 1, 1) := by decide +kernel
theorem dL_law_1384 : decode cL_law 1384 = .ok (.aload_n 0, 1) := by decide +kernel
theorem dL_law_1385 : decode cL_law 1385 = .ok (.iload 5, 2) := by decide +kernel
theorem dL_law_1387 : decode cL_law 1387 = .ok (.iconst 1, 1) := by decide +kernel
theorem dL_law_1388 : decode cL_law 1388 = .ok (.iadd, 1) := by decide +kernel
theorem dL_law_1389 : decode cL_law 1389 = .ok (.iaload, 1) := by decide +kernel
theorem dL_law_1390 : decode cL_law 1390 = .ok (.aload_n 0, 1) := by decide +kernel
theorem dL_law_1391 : decode cL_law 1391 = .ok (.iload 5, 2) := by decide +kernel
theorem dL_law_1393 : decode cL_law 1393 = .ok (.iconst 2, 1) := by decide +kernel
theorem dL_law_1394 : decode cL_law 1394 = .ok (.iadd, 1) := by decide +kernel
theorem dL_law_1395 : decode cL_law 1395 = .ok (.iaload, 1) := by decide +kernel
theorem dL_law_1396 : decode cL_law 1396 = .ok (.aload_n 0, 1) := by decide +kernel
theorem dL_law_1397 : decode cL_law 1397 = .ok (.iload 5, 2) := by decide +kernel
theorem dL_law_1399 : decode cL_law 1399 = .ok (.iconst 3, 1) := by decide +kernel
theorem dL_law_1400 : decode cL_law 1400 = .ok (.iadd, 1) := by decide +kernel
theorem dL_law_1401 : decode cL_law 1401 = .ok (.iaload, 1) := by decide +kernel
theorem dL_law_1402 : decode cL_law 1402 = .ok (.aload_n 0, 1) := by decide +kernel
theorem dL_law_1403 : decode cL_law 1403 = .ok (.iload 5, 2) := by decide +kernel
theorem dL_law_1405 : decode cL_law 1405 = .ok (.iconst 4, 1) := by decide +kernel
theorem dL_law_1406 : decode cL_law 1406 = .ok (.iadd, 1) := by decide +kernel
theorem dL_law_1407 : decode cL_law 1407 = .ok (.iaload, 1) := by decide +kernel
theorem dL_law_1408 : decode cL_law 1408 = .ok (.aload_n 3, 1) := by decide +kernel
theorem dL_law_1409 : decode cL_law 1409 = .ok (.invokestatic 169, 3) := by decide +kernel
theorem dL_law_1412 : decode cL_law 1412 = .ok (.istore 6, 2) := by decide +kernel
theorem dL_law_1414 : decode cL_law 1414 = .ok (.aload_n 2, 1) := by decide +kernel
theorem dL_law_1415 : decode cL_law 1415 = .ok (.aload_n 0, 1) := by decide +kernel
theorem dL_law_1416 : decode cL_law 1416 = .ok (.iload 5, 2) := by decide +kernel
theorem dL_law_1418 : decode cL_law 1418 = .ok (.iconst 1, 1) := by decide +kernel
theorem dL_law_1419 : decode cL_law 1419 = .ok (.iadd, 1) := by decide +kernel
theorem dL_law_1420 : decode cL_law 1420 = .ok (.iaload, 1) := by decide +kernel
theorem dL_law_1421 : decode cL_law 1421 = .ok (.aload_n 0, 1) := by decide +kernel
theorem dL_law_1422 : decode cL_law 1422 = .ok (.iload 5, 2) := by decide +kernel
theorem dL_law_1424 : decode cL_law 1424 = .ok (.iconst 2, 1) := by decide +kernel
theorem dL_law_1425 : decode cL_law 1425 = .ok (.iadd, 1) := by decide +kernel
theorem dL_law_1426 : decode cL_law 1426 = .ok (.iaload, 1) := by decide +kernel
theorem dL_law_1427 : decode cL_law 1427 = .ok (.aload_n 0, 1) := by decide +kernel
theorem dL_law_1428 : decode cL_law 1428 = .ok (.iload 5, 2) := by decide +kernel
theorem dL_law_1430 : decode cL_law 1430 = .ok (.iconst 3, 1) := by decide +kernel
theorem dL_law_1431 : decode cL_law 1431 = .ok (.iadd, 1) := by decide +kernel
theorem dL_law_1432 : decode cL_law 1432 = .ok (.iaload, 1) := by decide +kernel
theorem dL_law_1433 : decode cL_law 1433 = .ok (.aload_n 0, 1) := by decide +kernel
theorem dL_law_1434 : decode cL_law 1434 = .ok (.iload 5, 2) := by decide +kernel
theorem dL_law_1436 : decode cL_law 1436 = .ok (.iconst 4, 1) := by decide +kernel
theorem dL_law_1437 : decode cL_law 1437 = .ok (.iadd, 1) := by decide +kernel
theorem dL_law_1438 : decode cL_law 1438 = .ok (.iaload, 1) := by decide +kernel
theorem dL_law_1439 : decode cL_law 1439 = .ok (.invokevirtual 171, 3) := by decide +kernel
theorem dL_law_1442 : decode cL_law 1442 = .ok (.istore 7, 2) := by decide +kernel
theorem dL_law_1444 : decode cL_law 1444 = .ok (.aload_n 2, 1) := by decide +kernel
theorem dL_law_1445 : decode cL_law 1445 = .ok (.invokevirtual 93, 3) := by decide +kernel
theorem dL_law_1448 : decode cL_law 1448 = .ok (.iload 6, 2) := by decide +kernel
theorem dL_law_1450 : decode cL_law 1450 = .ok (.if_icmp .eq 5, 3) := by decide +kernel
theorem dL_law_1453 : decode cL_law 1453 = .ok (.iconst 0, 1) := by decide +kernel
theorem dL_law_1454 : decode cL_law 1454 = .ok (.ireturn, 1) := by decide +kernel
theorem dL_law_1455 : decode cL_law 1455 = .ok (.iload 6, 2) := by decide +kernel
theorem dL_law_1457 : decode cL_law 1457 = .ok (.ifCond .ne 15, 3) := by decide +kernel
theorem dL_law_1460 : decode cL_law 1460 = .ok (.aload_n 3, 1) := by decide +kernel
theorem dL_law_1461 : decode cL_law 1461 = .ok (.iconst 0, 1) := by decide +kernel
theorem dL_law_1462 : decode cL_law 1462 = .ok (.laload, 1) := by decide +kernel
theorem dL_law_1463 : decode cL_law 1463 = .ok (.iload 7, 2) := by decide +kernel
theorem dL_law_1465 : decode cL_law 1465 = .ok (.i2l, 1) := by decide +kernel
theorem dL_law_1466 : decode cL_law 1466 = .ok (.lcmp, 1) := by decide +kernel
theorem dL_law_1467 : decode cL_law 1467 = .ok (.ifCond .eq 5, 3) := by decide +kernel
theorem dL_law_1470 : decode cL_law 1470 = .ok (.iconst 0, 1) := by decide +kernel
theorem dL_law_1471 : decode cL_law 1471 = .ok (.ireturn, 1) := by decide +kernel
theorem dL_law_1472 : decode cL_law 1472 = .ok (.goto 303, 3) := by decide +kernel
theorem dL_law_1475 : decode cL_law 1475 = .ok (.aload_n 1, 1) := by decide +kernel
theorem dL_law_1476 : decode cL_law 1476 = .ok (.aload_n 0, 1) := by decide +kernel
theorem dL_law_1477 : decode cL_law 1477 = .ok (.iload 5, 2) := by decide +kernel
theorem dL_law_1479 : decode cL_law 1479 = .ok (.iconst 1, 1) := by decide +kernel
theorem dL_law_1480 : decode cL_law 1480 = .ok (.iadd, 1) := by decide +kernel
theorem dL_law_1481 : decode cL_law 1481 = .ok (.iaload, 1) := by decide +kernel
theorem dL_law_1482 : decode cL_law 1482 = .ok (.aload_n 0, 1) := by decide +kernel
theorem dL_law_1483 : decode cL_law 1483 = .ok (.iload 5, 2) := by decide +kernel
theorem dL_law_1485 : decode cL_law 1485 = .ok (.iconst 2, 1) := by decide +kernel
theorem dL_law_1486 : decode cL_law 1486 = .ok (.iadd, 1) := by decide +kernel
theorem dL_law_1487 : decode cL_law 1487 = .ok (.iaload, 1) := by decide +kernel
theorem dL_law_1488 : decode cL_law 1488 = .ok (.aload_n 0, 1) := by decide +kernel
theorem dL_law_1489 : decode cL_law 1489 = .ok (.iload 5, 2) := by decide +kernel
theorem dL_law_1491 : decode cL_law 1491 = .ok (.iconst 3, 1) := by decide +kernel
theorem dL_law_1492 : decode cL_law 1492 = .ok (.iadd, 1) := by decide +kernel
theorem dL_law_1493 : decode cL_law 1493 = .ok (.iaload, 1) := by decide +kernel
theorem dL_law_1494 : decode cL_law 1494 = .ok (.aload_n 3, 1) := by decide +kernel
theorem dL_law_1495 : decode cL_law 1495 = .ok (.invokestatic 172, 3) := by decide +kernel
theorem dL_law_1498 : decode cL_law 1498 = .ok (.istore 6, 2) := by decide +kernel
theorem dL_law_1500 : decode cL_law 1500 = .ok (.aload_n 2, 1) := by decide +kernel
theorem dL_law_1501 : decode cL_law 1501 = .ok (.aload_n 0, 1) := by decide +kernel
theorem dL_law_1502 : decode cL_law 1502 = .ok (.iload 5, 2) := by decide +kernel
theorem dL_law_1504 : decode cL_law 1504 = .ok (.iconst 1, 1) := by decide +kernel
theorem dL_law_1505 : decode cL_law 1505 = .ok (.iadd, 1) := by decide +kernel
theorem dL_law_1506 : decode cL_law 1506 = .ok (.iaload, 1) := by decide +kernel
theorem dL_law_1507 : decode cL_law 1507 = .ok (.aload_n 0, 1) := by decide +kernel
theorem dL_law_1508 : decode cL_law 1508 = .ok (.iload 5, 2) := by decide +kernel
theorem dL_law_1510 : decode cL_law 1510 = .ok (.iconst 2, 1) := by decide +kernel
theorem dL_law_1511 : decode cL_law 1511 = .ok (.iadd, 1) := by decide +kernel
theorem dL_law_1512 : decode cL_law 1512 = .ok (.iaload, 1) := by decide +kernel
theorem dL_law_1513 : decode cL_law 1513 = .ok (.aload_n 0, 1) := by decide +kernel
theorem dL_law_1514 : decode cL_law 1514 = .ok (.iload 5, 2) := by decide +kernel
theorem dL_law_1516 : decode cL_law 1516 = .ok (.iconst 3, 1) := by decide +kernel
theorem dL_law_1517 : decode cL_law 1517 = .ok (.iadd, 1) := by decide +kernel
theorem dL_law_1518 : decode cL_law 1518 = .ok (.iaload, 1) := by decide +kernel
theorem dL_law_1519 : decode cL_law 1519 = .ok (.invokevirtual 174, 3) := by decide +kernel
theorem dL_law_1522 : decode cL_law 1522 = .ok (.istore 7, 2) := by decide +kernel
theorem dL_law_1524 : decode cL_law 1524 = .ok (.aload_n 2, 1) := by decide +kernel
theorem dL_law_1525 : decode cL_law 1525 = .ok (.invokevirtual 93, 3) := by decide +kernel
theorem dL_law_1528 : decode cL_law 1528 = .ok (.iload 6, 2) := by decide +kernel
theorem dL_law_1530 : decode cL_law 1530 = .ok (.if_icmp .eq 5, 3) := by decide +kernel
theorem dL_law_1533 : decode cL_law 1533 = .ok (.iconst 0, 1) := by decide +kernel
theorem dL_law_1534 : decode cL_law 1534 = .ok (.ireturn, 1) := by decide +kernel
theorem dL_law_1535 : decode cL_law 1535 = .ok (.iload 6, 2) := by decide +kernel
theorem dL_law_1537 : decode cL_law 1537 = .ok (.ifCond .ne 15, 3) := by decide +kernel
theorem dL_law_1540 : decode cL_law 1540 = .ok (.aload_n 3, 1) := by decide +kernel
theorem dL_law_1541 : decode cL_law 1541 = .ok (.iconst 0, 1) := by decide +kernel
theorem dL_law_1542 : decode cL_law 1542 = .ok (.laload, 1) := by decide +kernel
theorem dL_law_1543 : decode cL_law 1543 = .ok (.iload 7, 2) := by decide +kernel
theorem dL_law_1545 : decode cL_law 1545 = .ok (.i2l, 1) := by decide +kernel
theorem dL_law_1546 : decode cL_law 1546 = .ok (.lcmp, 1) := by decide +kernel
theorem dL_law_1547 : decode cL_law 1547 = .ok (.ifCond .eq 5, 3) := by decide +kernel
theorem dL_law_1550 : decode cL_law 1550 = .ok (.iconst 0, 1) := by decide +kernel
theorem dL_law_1551 : decode cL_law 1551 = .ok (.ireturn, 1) := by decide +kernel
theorem dL_law_1552 : decode cL_law 1552 = .ok (.goto 223, 3) := by decide +kernel
theorem dL_law_1555 : decode cL_law 1555 = .ok (.aload_n 1, 1) := by decide +kernel
theorem dL_law_1556 : decode cL_law 1556 = .ok (.aload_n 0, 1) := by decide +kernel
theorem dL_law_1557 : decode cL_law 1557 = .ok (.iload 5, 2) := by decide +kernel
theorem dL_law_1559 : decode cL_law 1559 = .ok (.iconst 1, 1) := by decide +kernel
theorem dL_law_1560 : decode cL_law 1560 = .ok (.iadd, 1) := by decide +kernel
theorem dL_law_1561 : decode cL_law 1561 = .ok (.iaload, 1) := by decide +kernel
theorem dL_law_1562 : decode cL_law 1562 = .ok (.aload_n 0, 1) := by decide +kernel
theorem dL_law_1563 : decode cL_law 1563 = .ok (.iload 5, 2) := by decide +kernel
theorem dL_law_1565 : decode cL_law 1565 = .ok (.iconst 2, 1) := by decide +kernel
theorem dL_law_1566 : decode cL_law 1566 = .ok (.iadd, 1) := by decide +kernel
theorem dL_law_1567 : decode cL_law 1567 = .ok (.iaload, 1) := by decide +kernel
theorem dL_law_1568 : decode cL_law 1568 = .ok (.aload_n 0, 1) := by decide +kernel
theorem dL_law_1569 : decode cL_law 1569 = .ok (.iload 5, 2) := by decide +kernel
theorem dL_law_1571 : decode cL_law 1571 = .ok (.iconst 3, 1) := by decide +kernel
theorem dL_law_1572 : decode cL_law 1572 = .ok (.iadd, 1) := by decide +kernel
theorem dL_law_1573 : decode cL_law 1573 = .ok (.iaload, 1) := by decide +kernel
theorem dL_law_1574 : decode cL_law 1574 = .ok (.aload_n 3, 1) := by decide +kernel
theorem dL_law_1575 : decode cL_law 1575 = .ok (.invokestatic 175, 3) := by decide +kernel
theorem dL_law_1578 : decode cL_law 1578 = .ok (.istore 6, 2) := by decide +kernel
theorem dL_law_1580 : decode cL_law 1580 = .ok (.aload_n 2, 1) := by decide +kernel
theorem dL_law_1581 : decode cL_law 1581 = .ok (.aload_n 0, 1) := by decide +kernel
theorem dL_law_1582 : decode cL_law 1582 = .ok (.iload 5, 2) := by decide +kernel
theorem dL_law_1584 : decode cL_law 1584 = .ok (.iconst 1, 1) := by decide +kernel
theorem dL_law_1585 : decode cL_law 1585 = .ok (.iadd, 1) := by decide +kernel
theorem dL_law_1586 : decode cL_law 1586 = .ok (.iaload, 1) := by decide +kernel
theorem dL_law_1587 : decode cL_law 1587 = .ok (.aload_n 0, 1) := by decide +kernel
theorem dL_law_1588 : decode cL_law 1588 = .ok (.iload 5, 2) := by decide +kernel
theorem dL_law_1590 : decode cL_law 1590 = .ok (.iconst 2, 1) := by decide +kernel
theorem dL_law_1591 : decode cL_law 1591 = .ok (.iadd, 1) := by decide +kernel
theorem dL_law_1592 : decode cL_law 1592 = .ok (.iaload, 1) := by decide +kernel
theorem dL_law_1593 : decode cL_law 1593 = .ok (.aload_n 0, 1) := by decide +kernel
theorem dL_law_1594 : decode cL_law 1594 = .ok (.iload 5, 2) := by decide +kernel
theorem dL_law_1596 : decode cL_law 1596 = .ok (.iconst 3, 1) := by decide +kernel
theorem dL_law_1597 : decode cL_law 1597 = .ok (.iadd, 1) := by decide +kernel
theorem dL_law_1598 : decode cL_law 1598 = .ok (.iaload, 1) := by decide +kernel
theorem dL_law_1599 : decode cL_law 1599 = .ok (.invokevirtual 177, 3) := by decide +kernel
theorem dL_law_1602 : decode cL_law 1602 = .ok (.istore 7, 2) := by decide +kernel
theorem dL_law_1604 : decode cL_law 1604 = .ok (.aload_n 2, 1) := by decide +kernel
theorem dL_law_1605 : decode cL_law 1605 = .ok (.invokevirtual 93, 3) := by decide +kernel
theorem dL_law_1608 : decode cL_law 1608 = .ok (.iload 6, 2) := by decide +kernel
theorem dL_law_1610 : decode cL_law 1610 = .ok (.if_icmp .eq 5, 3) := by decide +kernel
theorem dL_law_1613 : decode cL_law 1613 = .ok (.iconst 0, 1) := by decide +kernel
theorem dL_law_1614 : decode cL_law 1614 = .ok (.ireturn, 1) := by decide +kernel
theorem dL_law_1615 : decode cL_law 1615 = .ok (.iload 6, 2) := by decide +kernel
theorem dL_law_1617 : decode cL_law 1617 = .ok (.ifCond .ne 15, 3) := by decide +kernel
theorem dL_law_1620 : decode cL_law 1620 = .ok (.aload_n 3, 1) := by decide +kernel
theorem dL_law_1621 : decode cL_law 1621 = .ok (.iconst 0, 1) := by decide +kernel
theorem dL_law_1622 : decode cL_law 1622 = .ok (.laload, 1) := by decide +kernel
theorem dL_law_1623 : decode cL_law 1623 = .ok (.iload 7, 2) := by decide +kernel
theorem dL_law_1625 : decode cL_law 1625 = .ok (.i2l, 1) := by decide +kernel
theorem dL_law_1626 : decode cL_law 1626 = .ok (.lcmp, 1) := by decide +kernel
theorem dL_law_1627 : decode cL_law 1627 = .ok (.ifCond .eq 5, 3) := by decide +kernel
theorem dL_law_1630 : decode cL_law 1630 = .ok (.iconst 0, 1) := by decide +kernel
theorem dL_law_1631 : decode cL_law 1631 = .ok (.ireturn, 1) := by decide +kernel
theorem dL_law_1632 : decode cL_law 1632 = .ok (.goto 143, 3) := by decide +kernel
theorem dL_law_1635 : decode cL_law 1635 = .ok (.aload_n 1, 1) := by decide +kernel
theorem dL_law_1636 : decode cL_law 1636 = .ok (.aload_n 0, 1) := by decide +kernel
theorem dL_law_1637 : decode cL_law 1637 = .ok (.iload 5, 2) := by decide +kernel
theorem dL_law_1639 : decode cL_law 1639 = .ok (.iconst 1, 1) := by decide +kernel
theorem dL_law_1640 : decode cL_law 1640 = .ok (.iadd, 1) := by decide +kernel
theorem dL_law_1641 : decode cL_law 1641 = .ok (.iaload, 1) := by decide +kernel
theorem dL_law_1642 : decode cL_law 1642 = .ok (.aload_n 3, 1) := by decide +kernel
theorem dL_law_1643 : decode cL_law 1643 = .ok (.invokestatic 178, 3) := by decide +kernel
theorem dL_law_1646 : decode cL_law 1646 = .ok (.istore 6, 2) := by decide +kernel
theorem dL_law_1648 : decode cL_law 1648 = .ok (.aload_n 2, 1) := by decide +kernel
theorem dL_law_1649 : decode cL_law 1649 = .ok (.aload_n 0, 1) := by decide +kernel
theorem dL_law_1650 : decode cL_law 1650 = .ok (.iload 5, 2) := by decide +kernel
theorem dL_law_1652 : decode cL_law 1652 = .ok (.iconst 1, 1) := by decide +kernel
theorem dL_law_1653 : decode cL_law 1653 = .ok (.iadd, 1) := by decide +kernel
theorem dL_law_1654 : decode cL_law 1654 = .ok (.iaload, 1) := by decide +kernel
theorem dL_law_1655 : decode cL_law 1655 = .ok (.invokevirtual 180, 3) := by decide +kernel
theorem dL_law_1658 : decode cL_law 1658 = .ok (.istore 7, 2) := by decide +kernel
theorem dL_law_1660 : decode cL_law 1660 = .ok (.aload_n 2, 1) := by decide +kernel
theorem dL_law_1661 : decode cL_law 1661 = .ok (.invokevirtual 93, 3) := by decide +kernel
theorem dL_law_1664 : decode cL_law 1664 = .ok (.iload 6, 2) := by decide +kernel
theorem dL_law_1666 : decode cL_law 1666 = .ok (.if_icmp .eq 5, 3) := by decide +kernel
theorem dL_law_1669 : decode cL_law 1669 = .ok (.iconst 0, 1) := by decide +kernel
theorem dL_law_1670 : decode cL_law 1670 = .ok (.ireturn, 1) := by decide +kernel
theorem dL_law_1671 : decode cL_law 1671 = .ok (.iload 6, 2) := by decide +kernel
theorem dL_law_1673 : decode cL_law 1673 = .ok (.ifCond .ne 15, 3) := by decide +kernel
theorem dL_law_1676 : decode cL_law 1676 = .ok (.aload_n 3, 1) := by decide +kernel
theorem dL_law_1677 : decode cL_law 1677 = .ok (.iconst 0, 1) := by decide +kernel
theorem dL_law_1678 : decode cL_law 1678 = .ok (.laload, 1) := by decide +kernel
theorem dL_law_1679 : decode cL_law 1679 = .ok (.iload 7, 2) := by decide +kernel
theorem dL_law_1681 : decode cL_law 1681 = .ok (.i2l, 1) := by decide +kernel
theorem dL_law_1682 : decode cL_law 1682 = .ok (.lcmp, 1) := by decide +kernel
theorem dL_law_1683 : decode cL_law 1683 = .ok (.ifCond .eq 5, 3) := by decide +kernel
theorem dL_law_1686 : decode cL_law 1686 = .ok (.iconst 0, 1) := by decide +kernel
theorem dL_law_1687 : decode cL_law 1687 = .ok (.ireturn, 1) := by decide +kernel
theorem dL_law_1688 : decode cL_law 1688 = .ok (.goto 87, 3) := by decide +kernel
theorem dL_law_1691 : decode cL_law 1691 = .ok (.aload_n 1, 1) := by decide +kernel
theorem dL_law_1692 : decode cL_law 1692 = .ok (.invokevirtual 181, 3) := by decide +kernel
theorem dL_law_1695 : decode cL_law 1695 = .ok (.aload_n 2, 1) := by decide +kernel
theorem dL_law_1696 : decode cL_law 1696 = .ok (.invokevirtual 184, 3) := by decide +kernel
theorem dL_law_1699 : decode cL_law 1699 = .ok (.if_icmp .eq 76, 3) := by decide +kernel
theorem dL_law_1702 : decode cL_law 1702 = .ok (.iconst 0, 1) := by decide +kernel
theorem dL_law_1703 : decode cL_law 1703 = .ok (.ireturn, 1) := by decide +kernel
theorem dL_law_1704 : decode cL_law 1704 = .ok (.aload_n 1, 1) := by decide +kernel
theorem dL_law_1705 : decode cL_law 1705 = .ok (.invokevirtual 185, 3) := by decide +kernel
theorem dL_law_1708 : decode cL_law 1708 = .ok (.aload_n 2, 1) := by decide +kernel
theorem dL_law_1709 : decode cL_law 1709 = .ok (.invokevirtual 188, 3) := by decide +kernel
theorem dL_law_1712 : decode cL_law 1712 = .ok (.if_icmp .eq 63, 3) := by decide +kernel
theorem dL_law_1715 : decode cL_law 1715 = .ok (.iconst 0, 1) := by decide +kernel
theorem dL_law_1716 : decode cL_law 1716 = .ok (.ireturn, 1) := by decide +kernel
theorem dL_law_1717 : decode cL_law 1717 = .ok (.aload_n 1, 1) := by decide +kernel
theorem dL_law_1718 : decode cL_law 1718 = .ok (.aload_n 3, 1) := by decide +kernel
theorem dL_law_1719 : decode cL_law 1719 = .ok (.invokestatic 189, 3) := by decide +kernel
theorem dL_law_1722 : decode cL_law 1722 = .ok (.istore 6, 2) := by decide +kernel
theorem dL_law_1724 : decode cL_law 1724 = .ok (.aload_n 2, 1) := by decide +kernel
theorem dL_law_1725 : decode cL_law 1725 = .ok (.invokevirtual 192, 3) := by decide +kernel
theorem dL_law_1728 : decode cL_law 1728 = .ok (.istore 7, 2) := by decide +kernel
theorem dL_law_1730 : decode cL_law 1730 = .ok (.aload_n 2, 1) := by decide +kernel
theorem dL_law_1731 : decode cL_law 1731 = .ok (.invokevirtual 93, 3) := by decide +kernel
theorem dL_law_1734 : decode cL_law 1734 = .ok (.iload 6, 2) := by decide +kernel
theorem dL_law_1736 : decode cL_law 1736 = .ok (.if_icmp .eq 5, 3) := by decide +kernel
theorem dL_law_1739 : decode cL_law 1739 = .ok (.iconst 0, 1) := by decide +kernel
theorem dL_law_1740 : decode cL_law 1740 = .ok (.ireturn, 1) := by decide +kernel
theorem dL_law_1741 : decode cL_law 1741 = .ok (.iload 6, 2) := by decide +kernel
theorem dL_law_1743 : decode cL_law 1743 = .ok (.ifCond .ne 15, 3) := by decide +kernel
theorem dL_law_1746 : decode cL_law 1746 = .ok (.aload_n 3, 1) := by decide +kernel
theorem dL_law_1747 : decode cL_law 1747 = .ok (.iconst 0, 1) := by decide +kernel
theorem dL_law_1748 : decode cL_law 1748 = .ok (.laload, 1) := by decide +kernel
theorem dL_law_1749 : decode cL_law 1749 = .ok (.iload 7, 2) := by decide +kernel
theorem dL_law_1751 : decode cL_law 1751 = .ok (.i2l, 1) := by decide +kernel
theorem dL_law_1752 : decode cL_law 1752 = .ok (.lcmp, 1) := by decide +kernel
theorem dL_law_1753 : decode cL_law 1753 = .ok (.ifCond .eq 5, 3) := by decide +kernel
theorem dL_law_1756 : decode cL_law 1756 = .ok (.iconst 0, 1) := by decide +kernel
theorem dL_law_1757 : decode cL_law 1757 = .ok (.ireturn, 1) := by decide +kernel
theorem dL_law_1758 : decode cL_law 1758 = .ok (.goto 17, 3) := by decide +kernel
theorem dL_law_1761 : decode cL_law 1761 = .ok (.aload_n 1, 1) := by decide +kernel
theorem dL_law_1762 : decode cL_law 1762 = .ok (.invokevirtual 193, 3) := by decide +kernel
theorem dL_law_1765 : decode cL_law 1765 = .ok (.aload_n 2, 1) := by decide +kernel
theorem dL_law_1766 : decode cL_law 1766 = .ok (.invokevirtual 197, 3) := by decide +kernel
theorem dL_law_1769 : decode cL_law 1769 = .ok (.lcmp, 1) := by decide +kernel
theorem dL_law_1770 : decode cL_law 1770 = .ok (.ifCond .eq 5, 3) := by decide +kernel
theorem dL_law_1773 : decode cL_law 1773 = .ok (.iconst 0, 1) := by decide +kernel
theorem dL_law_1774 : decode cL_law 1774 = .ok (.ireturn, 1) := by decide +kernel
theorem dL_law_1775 : decode cL_law 1775 = .ok (.iinc 5 5, 3) := by decide +kernel
theorem dL_law_1778 : decode cL_law 1778 = .ok (.goto (-1750), 3) := by decide +kernel
theorem dL_law_1781 : decode cL_law 1781 = .ok (.iconst 1, 1) := by decide +kernel
theorem dL_law_1782 : decode cL_law 1782 = .ok (.ireturn, 1) := by decide +kernel
end
section
section VXIA
variable {p : Program} {l : Launch} {e : Env} {R : Room} {s : State} {m : MethodId} {args : Array Value} {below : List Frame} {meth : Method} {c : Code} {T : State} {locs : List Loc} {cells slots : Nat}
theorem vx_callI (X : Stand p l e R s m args below meth c T locs cells slots) (hexec : p.tables.exec = Jvm.exec) {own : String} {index : Nat} {y : MethodName} {bytes : ByteArray} {maxL : Nat}
    (hown : s.vm.findClass own = some m.cls) (hy1 : y.name = "<init>") (hlink : (Cond.methodLink own index y).before args s = true) (hinst : (Cond.instanceMethod y).before args s = true)
    (hcode : (Cond.code y bytes maxL none).before args s = true) (hy : y.cls ≠ "java/lang/invoke/MethodHandle" ∧ y.cls ≠ "java/lang/invoke/VarHandle")
    {W9 : Nat} {Pre : Pt → Array Value → Prop} {Post : Pt → Array Value → Option Value → Pt → Prop} {PostX : Pt → Array Value → Addr → Pt → Prop} (hK : vx_Back l R p e below s args y 3 W9 Pre Post PostX)
    {g : JFrame} (hg : g.method = m) (hsize : g.locals.size = c.maxLocals) {a : Addr} {argsL rest : List Value} (hlen : ∀ sig, parseMethodDescriptor y.desc = some sig → argsL.length = sig.parameters.length)
    (hstack : g.stack = argsL.reverse ++ .ref a :: rest) (hW : 2 * g.monitorRoom + (rest.map fun v => v.category).sum ≤ W9) (hdg : decode c.code g.pc = .ok (.invokespecial index, 3))
    (hpre : ∀ vm₁, s.WarmedH vm₁ → Pre ⟨T.setVm vm₁, locs, cells, slots⟩ (Value.ref a :: argsL).toArray) :
    (∃ (v : Option Value) (vm₁ : Vm) (B : Pt), s.WarmedH vm₁ ∧ Stand p l e R s m args below meth c B.U B.locs B.cells B.slots ∧ Post ⟨T.setVm vm₁, locs, cells, slots⟩ (Value.ref a :: argsL).toArray v B ∧
      ∀ target, Steps p.tables e below (B.U.setTop { g with pc := g.pc + 3, stack := v.toList ++ rest }) target → Steps p.tables e below (T.setTop g) target) ∨
    (∃ (q : Addr) (vm₁ : Vm) (B : Pt), s.WarmedH vm₁ ∧ Stand p l e R s m args below meth c B.U B.locs B.cells B.slots ∧ PostX ⟨T.setVm vm₁, locs, cells, slots⟩ (Value.ref a :: argsL).toArray q B ∧
      Steps p.tables e below (T.setTop g) ((B.U.setTop { g with stack := rest }).pushFrame (.throwing q))) := by
  subst hg
  have hpl : e.platform.magicAccessors = ({} : Platform).magicAccessors := by rw [X.admits.platform]
  obtain ⟨mk, methM, cM, kP, vm₁, hnamed, hmethM, hcodeM, -, hlocalsM, -, hkP, -, hW₁, hstep₁⟩ := Steps.initColdArgs (e := e) X.here hexec X.warmed hpl hown hy1 hy hlink hinst hcode (f := g) rfl hlen hstack hdg
  have X₁ := X.noted hW₁
  rcases hK g.method meth c ⟨T.setVm vm₁, locs, cells, slots⟩ { g with stack := rest } (.invokespecial index) mk (Value.ref a :: argsL).toArray X₁ rfl hsize hdg hW (X₁.named hnamed) (hpre vm₁ X₁.warmed) with ⟨v, B, X', hpost, hsteps⟩ | ⟨q, B, X', hpost, hsteps⟩
  · exact Or.inl ⟨v, vm₁, B, X₁.warmed, X', hpost, fun target h => hstep₁ _ fun acts => by rw [doInvoke_state]; exact hsteps.trans h⟩
  · exact Or.inr ⟨q, vm₁, B, X₁.warmed, X', hpost, hstep₁ _ fun acts => by rw [doInvoke_state]; exact hsteps⟩
end VXIA
section VXIB
variable {p : Program} {l : Launch} {e : Env} {R : Room} {s : State} {m : MethodId} {args : Array Value} {below : List Frame} {meth : Method} {c : Code} {H : Heap} {locs : List Loc} {cells slots : Nat}
variable {y : MethodName} {bytes cc : ByteArray} {maxL nL mc ms n index : Nat} {ret : Option FieldType} {ws : List Cond} {rm : Room} {Pc : Array Value → State → Prop} {Qc : Array Value → State → Outcome → State → Prop} {XC : String → State → State → Prop} {free : Addr → Prop} {Ts : List Cond} {own C : String} {b : Addr} {As rest : List Value} {g : JFrame}
theorem vx_runI (S : CallFix p m c cc nL s args Ts own) (hM : vx_Met l y ws rm Pc Qc XC mc ms free) (cw : CallB R s args own index y bytes maxL none ws rm mc ms n ∧ y.name = "<init>" ∧ (Cond.instanceMethod y).before args s = true) (hp : PreS s H Pc (.ref b :: As))
    (hg : g.method = m) (hn : As.length = n) (hsize : g.locals.size = nL) (hstack : g.stack = As.reverse ++ .ref b :: rest) (hW : 2 * g.monitorRoom + (rest.map fun v => v.category).sum ≤ 8) (hdg : decode cc g.pc = .ok (.invokespecial index, 3)) (hf : cells + mc ≤ R.cells ∧ slots + ms ≤ R.slots) :
    vx_Run p l e R s m args below meth c H locs cells slots mc ms g rest (Qc (Value.ref b :: As).toArray) XC free := by
  have hK : vx_Back l R p e below s args y 3 8 (PreOf R mc ms Pc) (PostOf Qc mc ms free) (vx_Post XC mc ms free) := vx_callBack cw.1 hM hp.1
  obtain ⟨⟨-, -, -, -, -, -, hcode, -, hy, hlen, hl⟩, hy1, hin⟩ := cw
  obtain ⟨hx, hb, hml, ho, -⟩ := S
  have hPc := hp.2
  intro T hT X
  rcases vx_callI X hx (bytes := bytes) (maxL := maxL) ho hy1 hl hin hcode hy hK hg (hsize.trans hml.symm) (a := b) (argsL := As) (rest := rest) (fun sig h => hn.trans (hlen sig h)) hstack hW (by rw [hb]; exact hdg)
    (fun vm₁ hW₁ => ⟨hf.1, hf.2, hPc (T.setVm vm₁) hT hW₁⟩) with ⟨v, vm₁, ⟨U', l2, c2, s2⟩, hW₁, X', ⟨g', mk, t, L, e1, e2, hq, h1, hL, h2, h3⟩, st⟩ | ⟨q, vm₁, ⟨U', l2, c2, s2⟩, hW₁, X', ⟨g', mk, t, L, E, ce, e1, e2, hq, hce, hcv, hcl, h1, hL, h2, h3⟩, st⟩
  · dsimp only [Pt.U, Pt.locs, Pt.cells, Pt.slots] at X' e1 e2 h1 h2 h3 st
    subst h1; subst h2; subst h3
    exact Or.inl ⟨v, (T.setVm vm₁).calling g' mk (Value.ref b :: As).toArray, t, U', L, hT, X', hL, e1, e2, hq, st⟩
  · dsimp only [Pt.U, Pt.locs, Pt.cells, Pt.slots] at X' e1 e2 h1 h2 h3 st hcl
    subst h1; subst h2; subst h3
    exact Or.inr ⟨q, (T.setVm vm₁).calling g' mk (Value.ref b :: As).toArray, t, U', L, E, ce, hT, X', hL, e1, e2, hq, hce, hcv, vx_cls hW₁ hcl, st⟩
end VXIB
/-! ===== END ===== -/
/-! ===== BEGIN a private constructor of a nest mate that throws ===== -/
section VXIC
variable {p : Program} {l : Launch} {e : Env} {R : Room} {s : State} {m : MethodId} {args : Array Value} {below : List Frame} {meth : Method} {c : Code} {T : State} {locs : List Loc} {cells slots : Nat}
theorem vx_callIN (X : Stand p l e R s m args below meth c T locs cells slots) (hexec : p.tables.exec = Jvm.exec) {own : String} {index : Nat} {host : String} {y : MethodName} {bytes : ByteArray} {maxL : Nat}
    (hown : s.vm.findClass own = some m.cls) (hy1 : y.name = "<init>") (hlink : (Cond.methodLinkNest own index y host).before args s = true) (hinst : (Cond.instanceMethod y).before args s = true)
    (hcode : (Cond.code y bytes maxL none).before args s = true) (hy : y.cls ≠ "java/lang/invoke/MethodHandle" ∧ y.cls ≠ "java/lang/invoke/VarHandle")
    {W9 : Nat} {Pre : Pt → Array Value → Prop} {Post : Pt → Array Value → Option Value → Pt → Prop} {PostX : Pt → Array Value → Addr → Pt → Prop} (hK : vx_Back l R p e below s args y 3 W9 Pre Post PostX)
    {g : JFrame} (hg : g.method = m) (hsize : g.locals.size = c.maxLocals) {a : Addr} {argsL rest : List Value} (hlen : ∀ sig, parseMethodDescriptor y.desc = some sig → argsL.length = sig.parameters.length)
    (hstack : g.stack = argsL.reverse ++ .ref a :: rest) (hW : 2 * g.monitorRoom + (rest.map fun v => v.category).sum ≤ W9) (hdg : decode c.code g.pc = .ok (.invokespecial index, 3))
    (hpre : ∀ vm₁, s.WarmedH vm₁ → Pre ⟨T.setVm vm₁, locs, cells, slots⟩ (Value.ref a :: argsL).toArray) :
    (∃ (v : Option Value) (vm₁ : Vm) (B : Pt), s.WarmedH vm₁ ∧ Stand p l e R s m args below meth c B.U B.locs B.cells B.slots ∧ Post ⟨T.setVm vm₁, locs, cells, slots⟩ (Value.ref a :: argsL).toArray v B ∧
      ∀ target, Steps p.tables e below (B.U.setTop { g with pc := g.pc + 3, stack := v.toList ++ rest }) target → Steps p.tables e below (T.setTop g) target) ∨
    (∃ (q : Addr) (vm₁ : Vm) (B : Pt), s.WarmedH vm₁ ∧ Stand p l e R s m args below meth c B.U B.locs B.cells B.slots ∧ PostX ⟨T.setVm vm₁, locs, cells, slots⟩ (Value.ref a :: argsL).toArray q B ∧
      Steps p.tables e below (T.setTop g) ((B.U.setTop { g with stack := rest }).pushFrame (.throwing q))) := by
  subst hg
  have hpl : e.platform.magicAccessors = ({} : Platform).magicAccessors := by rw [X.admits.platform]
  obtain ⟨mk, methM, cM, kP, vm₁, hnamed, hmethM, hcodeM, -, hlocalsM, -, hkP, -, hW₁, hstep₁⟩ := Steps.initColdArgsNest (e := e) X.here hexec X.warmed hpl hown hy1 hy hlink hinst hcode (f := g) rfl hlen hstack hdg
  have X₁ := X.noted hW₁
  rcases hK g.method meth c ⟨T.setVm vm₁, locs, cells, slots⟩ { g with stack := rest } (.invokespecial index) mk (Value.ref a :: argsL).toArray X₁ rfl hsize hdg hW (X₁.named hnamed) (hpre vm₁ X₁.warmed) with ⟨v, B, X', hpost, hsteps⟩ | ⟨q, B, X', hpost, hsteps⟩
  · exact Or.inl ⟨v, vm₁, B, X₁.warmed, X', hpost, fun target h => hstep₁ _ fun acts => by rw [doInvoke_state]; exact hsteps.trans h⟩
  · exact Or.inr ⟨q, vm₁, B, X₁.warmed, X', hpost, hstep₁ _ fun acts => by rw [doInvoke_state]; exact hsteps⟩
end VXIC
section VXID
variable {p : Program} {l : Launch} {e : Env} {R : Room} {s : State} {m : MethodId} {args : Array Value} {below : List Frame} {meth : Method} {c : Code} {H : Heap} {locs : List Loc} {cells slots : Nat}
theorem vx_runIN {y : MethodName} {bytes cc : ByteArray} {maxL nL mc ms n index : Nat} {ws : List Cond} {rm : Room} {Pc : Array Value → State → Prop} {Qc : Array Value → State → Outcome → State → Prop} {XC : String → State → State → Prop} {free : Addr → Prop} {Ts : List Cond} {own host : String} {b : Addr} {As rest : List Value} {g : JFrame}
    (S : CallFix p m c cc nL s args Ts own) (hM : vx_Met l y ws rm Pc Qc XC mc ms free) (cw : va_CN R s args own index y host bytes maxL none ws rm mc ms n ∧ y.name = "<init>" ∧ (Cond.instanceMethod y).before args s = true) (hp : PreS s H Pc (.ref b :: As))
    (hg : g.method = m) (hn : As.length = n) (hsize : g.locals.size = nL) (hstack : g.stack = As.reverse ++ .ref b :: rest) (hW : 2 * g.monitorRoom + (rest.map fun v => v.category).sum ≤ 8) (hdg : decode cc g.pc = .ok (.invokespecial index, 3)) (hf : cells + mc ≤ R.cells ∧ slots + ms ≤ R.slots) :
    vx_Run p l e R s m args below meth c H locs cells slots mc ms g rest (Qc (Value.ref b :: As).toArray) XC free := by
  obtain ⟨⟨⟨hrc, hrs, hfr, hlo, hws, hcw⟩, hcode, hini, hy, hlen, hl⟩, hx1, hx2⟩ := cw
  have hK : vx_Back l R p e below s args y 3 8 (PreOf R mc ms Pc) (PostOf Qc mc ms free) (vx_Post XC mc ms free) := vx_back (bytes := bytes) (maxL := maxL) (ret := none) hM hp.1 hrc hrs hfr hlo hws hcw (fun a' U hW => word_at hW (Or.inl (by first | rfl | simp [Cond.onTables, Cond.keeps, Cond.steady])) hini)
  obtain ⟨hx, hb, hml, ho, -⟩ := S
  have hPc := hp.2
  intro T hT X
  rcases vx_callIN X hx (bytes := bytes) (maxL := maxL) ho hx1 hl hx2 hcode hy hK hg (hsize.trans hml.symm) (a := b) (argsL := As) (rest := rest) (fun sig h => hn.trans (hlen sig h)) hstack hW (by rw [hb]; exact hdg)
    (fun vm₁ hW₁ => ⟨hf.1, hf.2, hPc (T.setVm vm₁) hT hW₁⟩) with ⟨v, vm₁, ⟨U', l2, c2, s2⟩, hW₁, X', ⟨g', mk, t, L, e1, e2, hq, h1, hL, h2, h3⟩, st⟩ | ⟨q, vm₁, ⟨U', l2, c2, s2⟩, hW₁, X', ⟨g', mk, t, L, E, ce, e1, e2, hq, hce, hcv, hcl, h1, hL, h2, h3⟩, st⟩
  · dsimp only [Pt.U, Pt.locs, Pt.cells, Pt.slots] at X' e1 e2 h1 h2 h3 st
    subst h1; subst h2; subst h3
    exact Or.inl ⟨v, (T.setVm vm₁).calling g' mk (Value.ref b :: As).toArray, t, U', L, hT, X', hL, e1, e2, hq, st⟩
  · dsimp only [Pt.U, Pt.locs, Pt.cells, Pt.slots] at X' e1 e2 h1 h2 h3 st hcl
    subst h1; subst h2; subst h3
    exact Or.inr ⟨q, (T.setVm vm₁).calling g' mk (Value.ref b :: As).toArray, t, U', L, E, ce, hT, X', hL, e1, e2, hq, hce, hcv, vx_cls hW₁ hcl, st⟩
end VXID
end
section
/-! THE JUDGEMENTS: a frame of a method M over one world of numbered cells; references are numbers of cells (.ref i) or of the four read-only rows (.retAddr r: 0 the script, 1..3 the settings' tables). -/
abbrev kn_S : Type := Nat → Nat → Int32
abbrev kn_T : Type := Nat → Nat → Int64
abbrev kn_F : Type := (Nat × List (Option Value)) ⊕ ((Nat × Nat) ⊕ List Value)
abbrev kn_Z : Type := Nat × (Nat → kn_F)
abbrev kn_M : Type := MethodName × ByteArray × Nat × Option FieldType × List (Nat × Nat × Nat × Nat) × Nat × Nat
abbrev kn_O : Type := Option Value ⊕ String
abbrev kn_X : Type := Nat × (Nat → Int32)
abbrev kn_Q : Type := kn_O → kn_S → kn_T → kn_Z → Prop
abbrev kn_L : Type := List (Nat × Value)
def kn_ws : List Cond := lw_tbl.filter goodWord
theorem kn_in {w : Cond} (i : Nat) (h : lw_tbl[i]? = some w) (g : goodWord w = true) : w ∈ kn_ws := List.mem_filter.mpr ⟨List.mem_of_getElem? h, g⟩
theorem kn_good {w1 w2 : Cond} (h : w2 ∈ kn_ws) : GoodIn (w1 :: kn_ws) (w2 :: kn_ws) := by
  intro w hw
  rcases List.mem_cons.mp hw with rfl | hw
  · exact ⟨List.mem_cons_of_mem _ h, good_of_word (List.mem_filter.mp h).2⟩
  · exact ⟨List.mem_cons_of_mem _ hw, good_of_word (List.mem_filter.mp hw).2⟩
theorem kn_good0 {w2 : Cond} (h : w2 ∈ kn_ws) : GoodIn kn_ws (w2 :: kn_ws) := by
  intro w hw
  rcases List.mem_cons.mp hw with rfl | hw
  · exact ⟨h, good_of_word (List.mem_filter.mp h).2⟩
  · exact ⟨hw, good_of_word (List.mem_filter.mp hw).2⟩
theorem kn_goods {ws : List Cond} (h : ∀ w ∈ ws, w ∈ kn_ws) {w2 : Cond} (h2 : w2 ∈ kn_ws) : GoodIn kn_ws (ws ++ (w2 :: kn_ws)) := by
  intro w hw
  rcases List.mem_append.mp hw with hw | hw
  · exact ⟨h w hw, good_of_word (List.mem_filter.mp (h w hw)).2⟩
  · exact kn_good0 h2 w hw
-- values
def kn_cv (ad ar : Nat → Nat) : Value → Value
  | .ref i => .ref (ad i)
  | .retAddr r => .ref (ar r)
  | .int x => .int x
  | .long x => .long x
  | .float x => .float x
  | .double x => .double x
  | .null => .null
theorem kn_cv_cat (ad ar : Nat → Nat) (v : Value) : (kn_cv ad ar v).category = v.category := by cases v <;> rfl
def kn_av (s : kn_S) (t : kn_T) (i k : Nat) : Option Value → Value
  | none => .int (s i k)
  | some (.long _) => .long (t i k)
  | some (.ref r) => .ref r
  | some _ => .null
def kn_fs (ad : Nat → Nat) (s : kn_S) (t : kn_T) (i : Nat) (ds : List (Option Value)) : List Value := ds.mapIdx (fun k d => kn_cv ad ad (kn_av s t i k d))
theorem kn_fs_len (ad : Nat → Nat) (s : kn_S) (t : kn_T) (i : Nat) (ds : List (Option Value)) : (kn_fs ad s t i ds).length = ds.length := by simp [kn_fs]
theorem kn_fs_get {ad : Nat → Nat} {s : kn_S} {t : kn_T} {i k : Nat} {ds : List (Option Value)} {d : Option Value} (h : ds[k]? = some d) : (kn_fs ad s t i ds)[k]? = some (kn_cv ad ad (kn_av s t i k d)) := by
  simp [kn_fs, List.getElem?_mapIdx, h]
def kn_rf (ad : Nat → Nat) : Value → Option Nat
  | .ref r => some (ad r)
  | _ => none
def kn_ent (cs : Nat → ClassId) (ad : Nat → Nat) (s : kn_S) (t : kn_T) (z : kn_Z) (i : Nat) : va_E := match z.2 i with
  | .inl (ci, ds) => .inr (ci, kn_fs ad s t i ds)
  | .inr (.inl (0, n)) => .inl (cs 0, n, .inl (s i))
  | .inr (.inl (1, n)) => .inl (cs 2, n, .inr (.inl (t i)))
  | .inr (.inl (_, n)) => .inl (cs 3, n, .inr (.inr (.inr (.inl (fun j => (t i j).toUInt64)))))
  | .inr (.inr l) => .inl (cs 1, l.length, .inr (.inr (.inr (.inr (fun j => kn_rf ad (l.getD j .null))))))
def kn_wl (cs : Nat → ClassId) (ad : Nat → Nat) (s : kn_S) (t : kn_T) (z : kn_Z) : va_W := (List.range z.1).map (fun i => (ad i, kn_ent cs ad s t z i))
theorem kn_wl_get {cs : Nat → ClassId} {ad : Nat → Nat} {s : kn_S} {t : kn_T} {z : kn_Z} {i : Nat} (h : i < z.1) : (kn_wl cs ad s t z)[i]? = some (ad i, kn_ent cs ad s t z i) := by
  simp [kn_wl, h]
theorem kn_wl_set {cs : Nat → ClassId} {ad : Nat → Nat} {s s' : kn_S} {t t' : kn_T} {z z' : kn_Z} {i : Nat} {e : va_E} (hz : z'.1 = z.1) (he : kn_ent cs ad s' t' z' i = e) (ho : ∀ j, j < z.1 → j ≠ i → kn_ent cs ad s' t' z' j = kn_ent cs ad s t z j) : (kn_wl cs ad s t z).set i (ad i, e) = kn_wl cs ad s' t' z' := by
  refine List.ext_getElem? fun j => ?_
  by_cases hj : j < z.1
  · rw [kn_wl_get (z := z') (by rw [hz]; exact hj)]
    by_cases hji : j = i
    · subst hji
      rw [List.getElem?_set_self (by simp [kn_wl, hj]), he]
    · rw [List.getElem?_set_ne (Ne.symm hji), kn_wl_get hj, ho j hj hji]
  · have h1 : ((kn_wl cs ad s t z).set i (ad i, e)).length ≤ j := by simp [kn_wl]; omega
    have h2 : (kn_wl cs ad s' t' z').length ≤ j := by simp [kn_wl, hz]; omega
    rw [List.getElem?_eq_none_iff.mpr h1, List.getElem?_eq_none_iff.mpr h2]
def kn_ty (cs : Nat → ClassId) : List (ClassId × FieldType) := [(cs 0, .int), (cs 1, .object "KnockControl$State"), (cs 2, .long), (cs 3, .double)]
/-- every reference that a cell holds is to a cell -/
def kn_vz (z : kn_Z) : Prop := ∀ i, i < z.1 → match z.2 i with
  | .inl (_, ds) => ∀ r, some (Value.ref r) ∈ ds → r < z.1
  | .inr (.inl _) => True
  | .inr (.inr l) => ∀ r, Value.ref r ∈ l → r < z.1
def kn_A (z0 : Nat) : Nat → Prop := fun q => z0 ≤ q
def kn_Wd (D : va_G) (cs : Nat → ClassId) (z0 : Nat) (ad : Nat → Nat) (s : kn_S) (t : kn_T) (z : kn_Z) (H : Heap) : Prop :=
  va_P D vwCl (kn_wl cs ad s t z) H ∧ va_D (kn_A z0) (kn_wl cs ad s t z) ∧ kn_vz z
-- the read-only rows and what a throw needs
def kn_least : Nat → Int32
  | 0 => 16 | 1 => 1 | 2 => 1 | 3 => 20 | 4 => 0 | 5 => 1 | 6 => 0 | _ => 0
def kn_first : Nat → Int32
  | 0 => 40 | 1 => 10 | 2 => 20 | 3 => 150 | 4 => 40 | 5 => 30 | 6 => 10 | _ => 60
def kn_most : Nat → Int32
  | 0 => 128 | 1 => 50 | 2 => 200 | 3 => 200 | 4 => 200 | 5 => 500 | 6 => 1000 | _ => 100
def kn_rl (X : kn_X) : Nat → Nat
  | 0 => X.1
  | _ => 8
def kn_rv (X : kn_X) : Nat → Nat → Int32
  | 0 => X.2
  | 1 => kn_least
  | 2 => kn_first
  | _ => kn_most
/-- words that the tables hold but that go from state to state by rows of their own -/
def kn_isN : Cond → Bool
  | .castable _ _ => true
  | .fieldLinkNest _ _ _ _ _ _ => true
  | .methodLinkNest _ _ _ _ => true
  | _ => false
def kn_bad : List Cond := lw_tbl.filter kn_isN
theorem kn_inb {w : Cond} (i : Nat) (h : lw_tbl[i]? = some w) (g : kn_isN w = true) : w ∈ kn_bad := List.mem_filter.mpr ⟨List.mem_of_getElem? h, g⟩
theorem kn_bad_moved {w : Cond} (h : kn_isN w = true) {s U : State} (hW : s.WarmedH U.vm) (hw : va_Nw w s) : va_Nw w U := by
  cases w <;> first
    | exact va_Nw.warmC hW hw
    | exact va_Nw.warmF hW hw
    | exact va_Nw.warmM hW hw
    | cases h
theorem kn_bad_use {w : Cond} (h : kn_isN w = true) {A : Array Value} {U : State} (hw : va_Nw w U) : w.before A U = true := by
  cases w <;> first
    | exact va_Nw.use rfl hw
    | cases h
def kn_Fx (X : kn_X) (z0 : Nat) (ar : Nat → Nat) (U : State) (H : Heap) : Prop :=
  (∀ r, r < 4 → va_T .int (ar r) (kn_rl X r) (fun j => .int (kn_rv X r j)) (kn_A z0) U H) ∧
  (va_Z "KnockControl" "LEAST_SETTING" "[I" (.ref (ar 1)) (kn_A z0) U H ∧ va_Z "KnockControl" "FIRST_SETTING" "[I" (.ref (ar 2)) (kn_A z0) U H ∧ va_Z "KnockControl" "MOST_SETTING" "[I" (.ref (ar 3)) (kn_A z0) U H) ∧
  (vx_Zq Bundle.tN "UNASSIGNED_STACK" Bundle.steD (kn_A z0) U H ∧ vx_Zq Bundle.tN "SUPPRESSED_SENTINEL" Bundle.listD (kn_A z0) U H) ∧
  ((∃ a, vk_R RX6 228 "an argument is out of range" a U) ∧ (∃ a, vk_R RX6 235 "there is no such place" a U) ∧ (∃ a, vk_R RX6 240 "not in this state" a U)) ∧
  (∀ w ∈ kn_bad, va_Nw w U) ∧ (va_Nc "java/lang/IllegalArgumentException" "java/lang/IndexOutOfBoundsException" U ∧ va_Nc "java/lang/IllegalStateException" "java/lang/IllegalArgumentException" U) ∧ z0 ≤ H.size
theorem kn_Fx.moved {X : kn_X} {z0 : Nat} {ar : Nat → Nat} {s U : State} {H : Heap} (hW : s.WarmedH U.vm) (h : kn_Fx X z0 ar s H) : kn_Fx X z0 ar U H := by
  obtain ⟨h1, ⟨h2, h3, h4⟩, ⟨h5, h6⟩, ⟨⟨a, h7⟩, ⟨b, h8⟩, ⟨c, h9⟩⟩, h10, ⟨h11, h12⟩, h13⟩ := h
  have hv := hW.alike
  exact ⟨fun r hr => (h1 r hr).moved hv, ⟨h2.moved hv, h3.moved hv, h4.moved hv⟩, ⟨vx_Zq.moved hv h5, vx_Zq.moved hv h6⟩, ⟨⟨a, vk_R.warm hW h7⟩, ⟨b, vk_R.warm hW h8⟩, ⟨c, vk_R.warm hW h9⟩⟩,
    fun w hw => kn_bad_moved (List.mem_filter.mp hw).2 hW (h10 w hw), ⟨va_Nc.moved hv h11, va_Nc.moved hv h12⟩, h13⟩
theorem kn_Fx.kept {X : kn_X} {z0 : Nat} {ar : Nat → Nat} {s : State} {H0 H : Heap} {locs : List Loc} (hS : va_S (kn_A z0) H0 H locs) (h : kn_Fx X z0 ar s H0) : kn_Fx X z0 ar s H := by
  obtain ⟨h1, ⟨h2, h3, h4⟩, ⟨h5, h6⟩, h7, h10, h11, h13⟩ := h
  exact ⟨fun r hr => (h1 r hr).kept hS.2.1, ⟨h2.kept hS.2.1, h3.kept hS.2.1, h4.kept hS.2.1⟩, ⟨vx_Zq.kept h5 hS.2.1, vx_Zq.kept h6 hS.2.1⟩, h7, h10, h11, Nat.le_trans h13 hS.1⟩
-- locals
def kn_lc (ad ar : Nat → Nat) (lv : kn_L) : kn_L := lv.map (fun q => (q.1, kn_cv ad ar q.2))
def kn_get : kn_L → Nat → Option Value
  | [], _ => none
  | (j, w) :: r, i => if j = i then some w else kn_get r i
theorem kn_get_mem : ∀ {lv : kn_L} {i : Nat} {v : Value}, kn_get lv i = some v → (i, v) ∈ lv
  | (j, w) :: r, i, v, h => by
    unfold kn_get at h
    by_cases hj : j = i
    · rw [if_pos hj] at h
      cases h
      rw [← hj]
      exact List.mem_cons_self
    · rw [if_neg hj] at h
      exact List.mem_cons_of_mem _ (kn_get_mem h)
theorem kn_loc {ls : Array Slot} {n : Nat} {ad ar : Nat → Nat} {lv : kn_L} {i : Nat} {v : Value} (hl : lv_has ls n (kn_lc ad ar lv)) (h : kn_get lv i = some v) : ls[i]? = some (.val (kn_cv ad ar v)) :=
  hl.2.2 (i, kn_cv ad ar v) (List.mem_map.mpr ⟨(i, v), kn_get_mem h, rfl⟩)
def kn_put (lv : kn_L) (i : Nat) (v : Value) : kn_L := (i, v) :: lv.filter (fun q => !(q.1 == i) && !(q.1 + 1 == i && q.2.category == 2))
def kn_put2 (lv : kn_L) (i : Nat) (v : Value) : kn_L := (i, v) :: lv.filter (fun q => !(q.1 == i) && (!(q.1 == i + 1) && !(q.1 + 1 == i && q.2.category == 2)))
theorem kn_put_lc (ad ar : Nat → Nat) (lv : kn_L) (i : Nat) (v : Value) : (i, kn_cv ad ar v) :: (kn_lc ad ar lv).filter (fun q => !(q.1 == i) && !(q.1 + 1 == i && q.2.category == 2)) = kn_lc ad ar (kn_put lv i v) := by
  simp only [kn_lc, kn_put, List.map_cons, List.filter_map]
  congr 2
  refine List.filter_congr fun q _ => ?_
  simp [Function.comp, kn_cv_cat]
theorem kn_put2_lc (ad ar : Nat → Nat) (lv : kn_L) (i : Nat) (v : Value) : (i, kn_cv ad ar v) :: (kn_lc ad ar lv).filter (fun q => !(q.1 == i) && (!(q.1 == i + 1) && !(q.1 + 1 == i && q.2.category == 2))) = kn_lc ad ar (kn_put2 lv i v) := by
  simp only [kn_lc, kn_put2, List.map_cons, List.filter_map]
  congr 2
  refine List.filter_congr fun q _ => ?_
  simp [Function.comp, kn_cv_cat]
theorem kn_lsub {ls : Array Slot} {n : Nat} {ad ar : Nat → Nat} {lv lv' : kn_L} (hl : lv_has ls n (kn_lc ad ar lv)) (h : ∀ q ∈ lv', q ∈ lv) : lv_has ls n (kn_lc ad ar lv') :=
  ⟨hl.1, hl.2.1, fun q hq => by
    obtain ⟨r, hr, rfl⟩ := List.mem_map.mp hq
    exact hl.2.2 _ (List.mem_map.mpr ⟨r, h r hr, rfl⟩)⟩
-- the frame
/-- what is fixed in a frame of M -/
def kn_C (X : kn_X) (M : kn_M) (D : va_G) (cs : Nat → ClassId) (z0 : Nat) (ar : Nat → Nat) (p : Program) (l : Launch) (R : Room) (s : State) (m : MethodId) (args : Array Value) (meth : Method) (c : Code) : Prop :=
  (p.tables.exec = Jvm.exec ∧ c.code = M.2.1 ∧ c.maxLocals = M.2.2.1 ∧ s.vm.findClass M.1.cls = some m.cls ∧ ∀ w ∈ kn_ws, w.before args s = true) ∧
  (l.stackTraces = false ∧ meth.sig.returnType = M.2.2.2.1 ∧ meth.locks = false ∧ c.exceptionTable.toList = tableOf M.2.2.2.2.1 ∧ (M.1.name = "<init>" → meth.name = "<init>")) ∧
  (M.2.2.2.2.2.1 ≤ R.frames ∧ M.2.2.2.2.2.2 ≤ R.locals) ∧ va_K D vwCl (kn_ty cs) s ∧ kn_Fx X z0 ar s s.heap
/-- addresses: those of the frame's start stay; without new cells all of them do -/
def kn_Ad (n0 : Nat) (a0 : Nat → Nat) (z : kn_Z) (ad : Nat → Nat) : Prop := n0 ≤ z.1 ∧ (∀ i, i < n0 → ad i = a0 i) ∧ (z.1 = n0 → ad = a0)
def kn_rok (M : kn_M) (I : Instr) (v : Option Value) : Prop := match I, v with
  | .ireturn, some (.int x) => ∃ ty, M.2.2.2.1 = some ty ∧ narrow ty (.int x) = .int x
  | .lreturn, some (.long _) => M.2.2.2.1 = some .long
  | .dreturn, some (.double _) => M.2.2.2.1 = some .double
  | .areturn, some .null => ∃ C, M.2.2.2.1 = some (.object C)
  | .areturn, some (.ref _) => ∃ C, M.2.2.2.1 = some (.object C)
  | .return_, none => M.2.2.2.1 = none
  | _, _ => False
/-- what an end of the frame gives -/
def kn_End (X : kn_X) (M : kn_M) (D : va_G) (cs : Nat → ClassId) (z0 : Nat) (ar : Nat → Nat) (p : Program) (l : Launch) (e : Env) (R : Room) (s : State) (m : MethodId) (args : Array Value) (below : List Frame) (meth : Method) (c : Code) (n0 : Nat) (a0 : Nat → Nat) (mc ms : Nat) (QF : State → Prop) (Q : kn_Q) : Prop :=
  (∀ (v : Option Value) (σ : kn_S) (τ : kn_T) (z : kn_Z) (ad : Nat → Nat) (H : Heap) (locs : List Loc) (ls : Array Slot) (cells slots pc : Nat) (I : Instr), decode M.2.1 pc = .ok (I, 1) → kn_rok M I v → Q (.inl v) σ τ z → kn_Ad n0 a0 z ad →
    kn_Wd D cs z0 ad σ τ z H → va_S (kn_A z0) s.heap H locs → cells ≤ mc → slots ≤ ms → W p l e R s m args below meth c H locs cells slots QF (F0 m pc ls ((v.map (kn_cv ad ar)).toList))) ∧
  (∀ (E : String) (σ : kn_S) (τ : kn_T) (z : kn_Z) (ad : Nat → Nat) (H : Heap) (locs : List Loc) (ls : Array Slot) (rest : List Value) (cells slots pc : Nat) (q : Addr) (ce : Cell), (∀ x ∈ c.exceptionTable.toList, covers x pc = false) → Q (.inr E) σ τ z → kn_Ad n0 a0 z ad →
    kn_Wd D cs z0 ad σ τ z H → va_S (kn_A z0) s.heap H locs → cells ≤ mc → slots ≤ ms → H[q]? = some ce → ce.vm = .none → s.vm.findClass E = some ce.cls → vx_W p l e R s m args below meth c H locs cells slots QF (F0 m pc ls rest) q)
def kn_Cx (X : kn_X) (M : kn_M) (D : va_G) (cs : Nat → ClassId) (z0 : Nat) (ar : Nat → Nat) (p : Program) (l : Launch) (e : Env) (R : Room) (s : State) (m : MethodId) (args : Array Value) (below : List Frame) (meth : Method) (c : Code) (n0 : Nat) (a0 : Nat → Nat) (mc ms : Nat) (QF : State → Prop) (Q : kn_Q) : Prop :=
  kn_C X M D cs z0 ar p l R s m args meth c ∧ kn_End X M D cs z0 ar p l e R s m args below meth c n0 a0 mc ms QF Q ∧ mc ≤ R.cells ∧ ms ≤ R.slots
def kn_At (M : kn_M) (lv : kn_L) (σ : kn_S) (τ : kn_T) (z : kn_Z) (c n : Nat) (D : va_G) (cs : Nat → ClassId) (z0 : Nat) (ar : Nat → Nat) (s : State) (n0 : Nat) (a0 : Nat → Nat) (mc ms : Nat) (ad : Nat → Nat) (H : Heap) (locs : List Loc) (ls : Array Slot) (cells slots : Nat) : Prop :=
  kn_Ad n0 a0 z ad ∧ (cells + c ≤ mc ∧ slots + n ≤ ms) ∧ kn_Wd D cs z0 ad σ τ z H ∧ va_S (kn_A z0) s.heap H locs ∧ lv_has ls M.2.2.1 (kn_lc ad ar lv)
/-- THE JUDGEMENT: from pc of M, with these locals, this stack and these data, with room for c cells of n slots, the frame comes to an end with Q -/
def kn_Go (X : kn_X) (M : kn_M) (pc : Nat) (lv : kn_L) (st : List Value) (σ : kn_S) (τ : kn_T) (z : kn_Z) (c n : Nat) (Q : kn_Q) : Prop :=
  ∀ (D : va_G) (cs : Nat → ClassId) (z0 : Nat) (ar : Nat → Nat) (p : Program) (l : Launch) (e : Env) (R : Room) (s : State) (m : MethodId) (args : Array Value) (below : List Frame) (meth : Method) (cd : Code) (n0 : Nat) (a0 : Nat → Nat) (mc ms : Nat) (QF : State → Prop),
    kn_Cx X M D cs z0 ar p l e R s m args below meth cd n0 a0 mc ms QF Q →
    ∀ (ad : Nat → Nat) (H : Heap) (locs : List Loc) (ls : Array Slot) (cells slots : Nat), kn_At M lv σ τ z c n D cs z0 ar s n0 a0 mc ms ad H locs ls cells slots →
      W p l e R s m args below meth cd H locs cells slots QF (F0 m pc ls (st.map (kn_cv ad ar)))
/-- .. the same, E having been thrown at pc -/
def kn_Th (X : kn_X) (M : kn_M) (pc : Nat) (lv : kn_L) (E : String) (σ : kn_S) (τ : kn_T) (z : kn_Z) (c n : Nat) (Q : kn_Q) : Prop :=
  ∀ (D : va_G) (cs : Nat → ClassId) (z0 : Nat) (ar : Nat → Nat) (p : Program) (l : Launch) (e : Env) (R : Room) (s : State) (m : MethodId) (args : Array Value) (below : List Frame) (meth : Method) (cd : Code) (n0 : Nat) (a0 : Nat → Nat) (mc ms : Nat) (QF : State → Prop),
    kn_Cx X M D cs z0 ar p l e R s m args below meth cd n0 a0 mc ms QF Q →
    ∀ (ad : Nat → Nat) (H : Heap) (locs : List Loc) (ls : Array Slot) (cells slots : Nat), kn_At M lv σ τ z c n D cs z0 ar s n0 a0 mc ms ad H locs ls cells slots →
      ∀ (q : Addr) (ce : Cell) (rest : List Value), H[q]? = some ce → ce.vm = .none → s.vm.findClass E = some ce.cls → vx_W p l e R s m args below meth cd H locs cells slots QF (F0 m pc ls rest) q
-- a method, called
def kn_w (M : kn_M) : Cond := match M.2.2.2.2.1 with
  | [] => .code M.1 M.2.1 M.2.2.1 M.2.2.2.1
  | hh => .codeWith M.1 M.2.1 M.2.2.1 M.2.2.2.1 hh
def kn_rm (M : kn_M) (c n : Nat) : Room := { frames := M.2.2.2.2.2.1, cells := c, slots := n, locals := M.2.2.2.2.2.2 }
def kn_Pc (X : kn_X) (D : va_G) (cs : Nat → ClassId) (z0 : Nat) (ar ad : Nat → Nat) (args : List Value) (σ : kn_S) (τ : kn_T) (z : kn_Z) : Array Value → State → Prop :=
  va_Pc (args.map (kn_cv ad ar)) (fun U => kn_Wd D cs z0 ad σ τ z U.heap ∧ va_K D vwCl (kn_ty cs) U ∧ kn_Fx X z0 ar U U.heap)
def kn_Qc (D : va_G) (cs : Nat → ClassId) (z0 : Nat) (ar ad0 : Nat → Nat) (n0 : Nat) (Q : kn_Q) : Array Value → State → Outcome → State → Prop := fun _ st oc t =>
  ∃ (v : Option Value) (ad : Nat → Nat) (σ : kn_S) (τ : kn_T) (z : kn_Z), oc = .returned (v.map (kn_cv ad ar)) ∧ Q (.inl v) σ τ z ∧ kn_Ad n0 ad0 z ad ∧ kn_Wd D cs z0 ad σ τ z t.heap ∧ va_F (kn_A z0) st t
def kn_XC (D : va_G) (cs : Nat → ClassId) (z0 : Nat) (ad0 : Nat → Nat) (n0 : Nat) (Q : kn_Q) : String → State → State → Prop := fun E st t =>
  ∃ (ad : Nat → Nat) (σ : kn_S) (τ : kn_T) (z : kn_Z), Q (.inr E) σ τ z ∧ kn_Ad n0 ad0 z ad ∧ kn_Wd D cs z0 ad σ τ z t.heap ∧ va_F (kn_A z0) st t
/-- M, called with these arguments over these data, with room for c cells of n slots, ends with Q -/
def kn_Ev (X : kn_X) (M : kn_M) (args : List Value) (σ : kn_S) (τ : kn_T) (z : kn_Z) (c n : Nat) (Q : kn_Q) : Prop :=
  ∀ (l : Launch) (D : va_G) (cs : Nat → ClassId) (z0 : Nat) (ar ad : Nat → Nat), l.stackTraces = false →
    vx_Met l M.1 (kn_w M :: kn_ws) (kn_rm M c n) (kn_Pc X D cs z0 ar ad args σ τ z) (kn_Qc D cs z0 ar ad z.1 Q) (kn_XC D cs z0 ad z.1 Q) c n (kn_A z0)
end
section
-- entry, ends, calls
theorem kn_args_lc (ad ar : Nat → Nat) : ∀ (vs : List Value) (i : Nat), lv_args i (vs.map (kn_cv ad ar)) = kn_lc ad ar (lv_args i vs)
  | [], _ => rfl
  | v :: vs, i => by
    simp only [List.map_cons, lv_args, kn_lc, kn_cv_cat]
    rw [kn_args_lc ad ar vs]
    rfl
theorem kn_sl_len (ad ar : Nat → Nat) : ∀ (vs : List Value), (lg_sl (vs.map (kn_cv ad ar))).length = (lg_sl vs).length
  | [] => rfl
  | v :: vs => by
    have h := kn_sl_len ad ar vs
    simp only [lg_sl, List.map_cons, List.flatMap_cons, List.length_append, kn_cv_cat] at h ⊢
    rw [h]
    split <;> rfl
theorem kn_cats (ad ar : Nat → Nat) (st : List Value) : ((st.map (kn_cv ad ar)).map fun v => v.category).sum = (st.map fun v => v.category).sum := by
  rw [List.map_map]
  congr 1
  refine List.map_congr_left fun v _ => ?_
  exact kn_cv_cat ad ar v
theorem kn_blind {X : kn_X} {D : va_G} {cs : Nat → ClassId} {z0 : Nat} {ar ad : Nat → Nat} {args : List Value} {σ : kn_S} {τ : kn_T} {z : kn_Z} : FrameBlind (kn_Pc X D cs z0 ar ad args σ τ z) := by
  intro a U g mk h
  obtain ⟨h1, h2, h3, h4⟩ := h
  exact ⟨h1, h2, va_K.moved (u := U) (U := U.calling g mk a) (Vm.Alike.refl U.vm) h3, kn_Fx.moved (s := U) (U := U.calling g mk a) (State.WarmedH.refl U) h4⟩
theorem kn_endMQ {X : kn_X} {M : kn_M} {D : va_G} {cs : Nat → ClassId} {z0 : Nat} {ar : Nat → Nat} {p : Program} {l : Launch} {e : Env} {R : Room} {s : State} {m : MethodId} {args : Array Value} {below : List Frame} {meth : Method} {cd : Code} {n0 : Nat} {a0 : Nat → Nat} {mc ms : Nat} {Q : kn_Q}
    (C : kn_C X M D cs z0 ar p l R s m args meth cd) : kn_End X M D cs z0 ar p l e R s m args below meth cd n0 a0 mc ms (vx_MQ below (kn_Qc D cs z0 ar a0 n0 Q) (kn_XC D cs z0 a0 n0 Q) args s mc ms (kn_A z0)) Q := by
  obtain ⟨⟨hx, hb, hml, hown, hts⟩, ⟨htr, hr, hlocks, htab, hin⟩, hroom, hK, hF⟩ := C
  constructor
  · intro v σ τ z ad H locs ls cells slots pc I hd hrok hQ hAd hWd hS hc hn
    refine W.widen hc hn (vx_ret ?_)
    have fin : ∀ t : State, t.heap = H → kn_Qc D cs z0 ar a0 n0 Q args s (.returned (v.map (kn_cv ad ar))) t := fun t ht =>
      ⟨v, ad, σ, τ, z, rfl, hQ, hAd, by rw [ht]; exact hWd, hS.F ht⟩
    cases v with
    | none => cases I <;> first
      | exact False.elim hrok
      | exact W.vret hx hb (hr.trans hrok) (fun t ht _ => fin t ht) hS.2.2 hd hlocks
    | some v => cases v <;> cases I <;> first
      | exact False.elim hrok
      | (obtain ⟨ty, h1, h2⟩ := hrok; exact W.zret hx hb (hr.trans h1) h2 (fun t ht _ => fin t ht) hS.2.2 hd hlocks)
      | exact W.lret hx hb (hr.trans hrok) (fun t ht _ => fin t ht) hS.2.2 hd hlocks
      | exact W.dret hx hb (hr.trans hrok) (fun t ht _ => fin t ht) hS.2.2 hd hlocks
      | (obtain ⟨C, h1⟩ := hrok; exact W.aret hx hb (hr.trans h1) (Or.inl ⟨C, rfl⟩) (by first | exact Or.inl rfl | exact Or.inr ⟨_, rfl⟩) (fun t ht _ => fin t ht) hS.2.2 hd hlocks)
  · intro E σ τ z ad H locs ls rest cells slots pc q ce hout hQ hAd hWd hS hc hn hq hv hcl
    exact vx_out hout hlocks hq hv hcl (fun t ht _ => ⟨ad, σ, τ, z, hQ, hAd, by rw [ht]; exact hWd, hS.F ht⟩) hS.2.2 hc hn
theorem kn_Ad.rf {z : kn_Z} {ad : Nat → Nat} : kn_Ad z.1 ad z ad := ⟨Nat.le_refl _, fun _ _ => rfl, fun _ => rfl⟩
theorem kn_entry {X : kn_X} {M : kn_M} {args : List Value} {σ : kn_S} {τ : kn_T} {z : kn_Z} {c n : Nat} {Q : kn_Q} (hp : plainName M.1.cls = true) (hM : M.2.2.2.2.1 = []) (hlen : (lg_sl args).length ≤ M.2.2.1)
    (k : kn_Go X M 0 (lv_args 0 args) [] σ τ z c n Q) : kn_Ev X M args σ τ z c n Q := by
  intro l D cs z0 ar ad htr
  have hw : kn_w M :: kn_ws = Cond.code M.1 M.2.1 M.2.2.1 M.2.2.2.1 :: kn_ws := by rw [kn_w, hM]
  refine vx_ofW (cc := M.2.1) (maxL := M.2.2.1) (ret := M.2.2.2.1) hp hw ?_
  intro p e s m args' below meth cd s₁ B hml ht hv
  obtain ⟨rfl, hW, hK, hF⟩ := hv
  have hts := atoms_spec (ws := kn_w M :: kn_ws) B.pre
  have htab : cd.exceptionTable.toList = tableOf M.2.2.2.2.1 := by
    rw [hM]
    exact List.eq_nil_iff_forall_not_mem.mpr fun x hx => ht x hx
  have C : kn_C X M D cs z0 ar p l (headSpec (kn_w M :: kn_ws) (kn_rm M c n)).room s m (args.map (kn_cv ad ar)).toArray meth cd :=
    ⟨⟨B.exec, B.bytes, hml, findClass_of_methodNamed B.named, fun w hw => hts w (List.mem_cons_of_mem _ hw)⟩, ⟨htr, B.returns, B.notSynchronized, htab, fun h => (name_of_methodNamed B.named B.method).1.trans h⟩, ⟨Nat.le_refl _, Nat.le_refl _⟩, hK, hF⟩
  rw [lg_entry_eq]
  have hl := lv_entry (args.map (kn_cv ad ar)) (n := M.2.2.1) (by rw [kn_sl_len]; exact hlen)
  rw [kn_args_lc] at hl
  exact k D cs z0 ar p l e _ s m _ below meth cd z.1 ad c n _ ⟨C, kn_endMQ C, Nat.le_refl _, Nat.le_refl _⟩ ad s.heap [] _ 0 0
    ⟨kn_Ad.rf, ⟨by omega, by omega⟩, hW, va_S.rf, hl⟩
theorem kn_entryH {X : kn_X} {M : kn_M} {args : List Value} {σ : kn_S} {τ : kn_T} {z : kn_Z} {c n : Nat} {Q : kn_Q} {h0 : Nat × Nat × Nat × Nat} {hr : List (Nat × Nat × Nat × Nat)} (hp : plainName M.1.cls = true) (hM : M.2.2.2.2.1 = h0 :: hr) (hlen : (lg_sl args).length ≤ M.2.2.1)
    (k : kn_Go X M 0 (lv_args 0 args) [] σ τ z c n Q) : kn_Ev X M args σ τ z c n Q := by
  intro l D cs z0 ar ad htr
  have hw : kn_w M :: kn_ws = Cond.codeWith M.1 M.2.1 M.2.2.1 M.2.2.2.1 M.2.2.2.2.1 :: kn_ws := by rw [kn_w, hM]
  refine vx_ofWH (cc := M.2.1) (maxL := M.2.2.1) (ret := M.2.2.2.1) hp hw ?_
  intro p e s m args' below meth cd s₁ B hml hv
  obtain ⟨rfl, hW, hK, hF⟩ := hv
  have hts := atoms_spec (ws := kn_w M :: kn_ws) B.pre
  have htab : cd.exceptionTable.toList = tableOf M.2.2.2.2.1 := vx_table (x := M.1) B (hts _ (by rw [hw]; exact List.mem_cons_self))
  have C : kn_C X M D cs z0 ar p l (headSpec (kn_w M :: kn_ws) (kn_rm M c n)).room s m (args.map (kn_cv ad ar)).toArray meth cd :=
    ⟨⟨B.exec, B.bytes, hml, findClass_of_methodNamed B.named, fun w hw => hts w (List.mem_cons_of_mem _ hw)⟩, ⟨htr, B.returns, B.notSynchronized, htab, fun h => (name_of_methodNamed B.named B.method).1.trans h⟩, ⟨Nat.le_refl _, Nat.le_refl _⟩, hK, hF⟩
  rw [lg_entry_eq]
  have hl := lv_entry (args.map (kn_cv ad ar)) (n := M.2.2.1) (by rw [kn_sl_len]; exact hlen)
  rw [kn_args_lc] at hl
  exact k D cs z0 ar p l e _ s m _ below meth cd z.1 ad c n _ ⟨C, kn_endMQ C, Nat.le_refl _, Nat.le_refl _⟩ ad s.heap [] _ 0 0
    ⟨kn_Ad.rf, ⟨by omega, by omega⟩, hW, va_S.rf, hl⟩
section KNE
variable {X : kn_X} {M : kn_M} {pc : Nat} {lv : kn_L} {σ : kn_S} {τ : kn_T} {z : kn_Z} {c n : Nat} {Q : kn_Q}
theorem k_end {I : Instr} {v : Option Value} (hd : decode M.2.1 pc = .ok (I, 1)) (hr : kn_rok M I v) (hQ : Q (.inl v) σ τ z) : kn_Go X M pc lv v.toList σ τ z c n Q := by
  intro D cs z0 ar p l e R s m args below meth cd n0 a0 mc ms QF Cx ad H locs ls cells slots hA
  have h : (v.toList.map (kn_cv ad ar)) = (v.map (kn_cv ad ar)).toList := by cases v <;> rfl
  rw [h]
  exact Cx.2.1.1 v σ τ z ad H locs ls cells slots pc I hd hr hQ hA.1 hA.2.2.1 hA.2.2.2.1 (by have := hA.2.1.1; omega) (by have := hA.2.1.2; omega)
theorem k_iret {x : Int32} {ty : FieldType} (hd : decode M.2.1 pc = .ok (.ireturn, 1)) (hr : M.2.2.2.1 = some ty) (hn : narrow ty (.int x) = .int x) (hQ : Q (.inl (some (.int x))) σ τ z) : kn_Go X M pc lv [.int x] σ τ z c n Q := k_end (v := some (.int x)) hd ⟨ty, hr, hn⟩ hQ
theorem k_lret {x : Int64} (hd : decode M.2.1 pc = .ok (.lreturn, 1)) (hr : M.2.2.2.1 = some .long) (hQ : Q (.inl (some (.long x))) σ τ z) : kn_Go X M pc lv [.long x] σ τ z c n Q := k_end (v := some (.long x)) hd hr hQ
theorem k_dret {x : UInt64} (hd : decode M.2.1 pc = .ok (.dreturn, 1)) (hr : M.2.2.2.1 = some .double) (hQ : Q (.inl (some (.double x))) σ τ z) : kn_Go X M pc lv [.double x] σ τ z c n Q := k_end (v := some (.double x)) hd hr hQ
theorem k_aret {x : Nat} {C : String} (hd : decode M.2.1 pc = .ok (.areturn, 1)) (hr : M.2.2.2.1 = some (.object C)) (hQ : Q (.inl (some (.ref x))) σ τ z) : kn_Go X M pc lv [.ref x] σ τ z c n Q := k_end (v := some (.ref x)) hd ⟨C, hr⟩ hQ
theorem k_aretN {C : String} (hd : decode M.2.1 pc = .ok (.areturn, 1)) (hr : M.2.2.2.1 = some (.object C)) (hQ : Q (.inl (some .null)) σ τ z) : kn_Go X M pc lv [.null] σ τ z c n Q := k_end (v := some .null) hd ⟨C, hr⟩ hQ
theorem k_vret (hd : decode M.2.1 pc = .ok (.return_, 1)) (hr : M.2.2.2.1 = none) (hQ : Q (.inl none) σ τ z) : kn_Go X M pc lv [] σ τ z c n Q := k_end (v := none) hd hr hQ
theorem k_thOut {E : String} (hM : M.2.2.2.2.1 = []) (hQ : Q (.inr E) σ τ z) : kn_Th X M pc lv E σ τ z c n Q := by
  intro D cs z0 ar p l e R s m args below meth cd n0 a0 mc ms QF Cx ad H locs ls cells slots hA q ce rest hq hv hcl
  refine Cx.2.1.2 E σ τ z ad H locs ls rest cells slots pc q ce ?_ hQ hA.1 hA.2.2.1 hA.2.2.2.1 (by have := hA.2.1.1; omega) (by have := hA.2.1.2; omega) hq hv hcl
  intro x hx
  rw [Cx.1.2.1.2.2.2.1, hM] at hx
  cases hx
/-- the same judgement for fewer locals, for a weaker end, for more room -/
theorem k_sub {lv' : kn_L} {st : List Value} (h : ∀ q ∈ lv', q ∈ lv) (k : kn_Go X M pc lv' st σ τ z c n Q) : kn_Go X M pc lv st σ τ z c n Q := by
  intro D cs z0 ar p l e R s m args below meth cd n0 a0 mc ms QF Cx ad H locs ls cells slots hA
  exact k D cs z0 ar p l e R s m args below meth cd n0 a0 mc ms QF Cx ad H locs ls cells slots ⟨hA.1, hA.2.1, hA.2.2.1, hA.2.2.2.1, kn_lsub hA.2.2.2.2 h⟩
theorem k_room {c' n' : Nat} {st : List Value} (h1 : c' ≤ c) (h2 : n' ≤ n) (k : kn_Go X M pc lv st σ τ z c' n' Q) : kn_Go X M pc lv st σ τ z c n Q := by
  intro D cs z0 ar p l e R s m args below meth cd n0 a0 mc ms QF Cx ad H locs ls cells slots hA
  exact k D cs z0 ar p l e R s m args below meth cd n0 a0 mc ms QF Cx ad H locs ls cells slots ⟨hA.1, ⟨by have := hA.2.1.1; omega, by have := hA.2.1.2; omega⟩, hA.2.2⟩
/-- how the caller goes on behind a call that makes no cell of the world -/
abbrev kn_K (X : kn_X) (M : kn_M) (pc : Nat) (lv : kn_L) (rest : List Value) (N : Nat) (c n : Nat) (Q : kn_Q) : kn_Q := fun o σ τ z => z.1 = N ∧ match o with
  | .inl none => kn_Go X M (pc + 3) lv rest σ τ z c n Q
  | .inl (some v) => kn_Go X M (pc + 3) lv (v :: rest) σ τ z c n Q
  | .inr E => kn_Th X M pc lv E σ τ z c n Q
def kn_vok (N : Nat) (vs : List Value) : Prop := ∀ r, Value.ref r ∈ vs → r < N
theorem kn_vok_map {N : Nat} {vs : List Value} {ad ad' ar : Nat → Nat} (h : kn_vok N vs) (ha : ∀ i, i < N → ad' i = ad i) : vs.map (kn_cv ad' ar) = vs.map (kn_cv ad ar) := by
  refine List.map_congr_left fun v hv => ?_
  cases v <;> try rfl
  rename_i r
  show Value.ref (ad' r) = Value.ref (ad r)
  rw [ha r (h r hv)]
theorem kn_vok_lc {N : Nat} {lv : kn_L} {ad ad' ar : Nat → Nat} (h : kn_vok N (lv.map (fun q => q.2))) (ha : ∀ i, i < N → ad' i = ad i) : kn_lc ad' ar lv = kn_lc ad ar lv := by
  refine List.map_congr_left fun q hq => ?_
  have h1 := kn_vok_map (vs := [q.2]) (ar := ar) (fun r hr => h r (List.mem_map.mpr ⟨q, hq, (List.mem_singleton.mp hr).symm⟩)) ha
  simp only [List.map_cons, List.map_nil, List.cons.injEq, and_true] at h1
  rw [h1]
/-- .. behind one that may make cells: what the caller holds is of cells that were there -/
abbrev kn_KN (X : kn_X) (M : kn_M) (pc : Nat) (lv : kn_L) (rest : List Value) (c n : Nat) (Q : kn_Q) : kn_Q := fun o σ τ z => match o with
  | .inl none => kn_Go X M (pc + 3) lv rest σ τ z c n Q
  | .inl (some v) => kn_Go X M (pc + 3) lv (v :: rest) σ τ z c n Q
  | .inr E => kn_Th X M pc lv E σ τ z c n Q
theorem kn_after {D : va_G} {cs : Nat → ClassId} {z0 : Nat} {ar : Nat → Nat} {p : Program} {l : Launch} {e : Env} {R : Room} {s : State} {m : MethodId} {args : Array Value} {below : List Frame} {meth : Method} {cd : Code} {n0 : Nat} {a0 : Nat → Nat} {mc ms : Nat} {QF : State → Prop}
    (Cx : kn_Cx X M D cs z0 ar p l e R s m args below meth cd n0 a0 mc ms QF Q) {ad : Nat → Nat} {H : Heap} {locs : List Loc} {ls : Array Slot} {cells slots : Nat} (hA : kn_At M lv σ τ z c n D cs z0 ar s n0 a0 mc ms ad H locs ls cells slots)
    {c1 n1 : Nat} (h1 : c1 ≤ c) (h2 : n1 ≤ n) {rest st0 : List Value} {a : Array Value} {Q' : kn_Q} (hk : ∀ (ad' : Nat → Nat) (o : kn_O) (σ' : kn_S) (τ' : kn_T) (z' : kn_Z), Q' o σ' τ' z' → kn_Ad z.1 ad z' ad' → kn_KN X M pc lv rest (c - c1) (n - n1) Q o σ' τ' z' ∧ rest.map (kn_cv ad' ar) = rest.map (kn_cv ad ar) ∧ kn_lc ad' ar lv = kn_lc ad ar lv)
    (hr : vx_Run p l e R s m args below meth cd H locs cells slots c1 n1 (F0 m pc ls st0) (rest.map (kn_cv ad ar)) (kn_Qc D cs z0 ar ad z.1 Q' a) (kn_XC D cs z0 ad z.1 Q') (kn_A z0)) :
    W p l e R s m args below meth cd H locs cells slots QF (F0 m pc ls st0) := by
  have hsz : z0 ≤ H.size := (Cx.1.2.2.2.2.kept hA.2.2.2.1).2.2.2.2.2.2
  have key : ∀ (ad' : Nat → Nat) (z' : kn_Z), kn_Ad z.1 ad z' ad' → kn_Ad n0 a0 z' ad' := by
    intro ad' z' h
    obtain ⟨b1, b2, b3⟩ := h
    obtain ⟨d1, d2, d3⟩ := hA.1
    refine ⟨Nat.le_trans d1 b1, fun i hi => (b2 i (Nat.lt_of_lt_of_le hi d1)).trans (d2 i hi), fun hz => ?_⟩
    have h5 : z'.1 = z.1 := by omega
    rw [b3 h5, d3 (by omega)]
  intro T hT Xs
  rcases hr T hT Xs with ⟨v, st₀, t, T', L, h0, X', hL, e1, e2, ⟨v', ad', σ', τ', z', hv, hQ, hAd, hWd, hF⟩, st⟩ | ⟨q, st₀, t, T', L, E, ce, h0, X', hL, e1, e2, ⟨ad', σ', τ', z', hQ, hAd, hWd, hF⟩, hce, hcv, hcl, st⟩
  · cases hv
    obtain ⟨k1, k2, k3⟩ := vx_keep (A0 := kn_A z0) (A1 := kn_A z0) h0 e1 hA.2.2.2.1 (fun _ _ h => h) (fun _ h => h) hL hF
    obtain ⟨g1, g2, g3⟩ := hk ad' (.inl v') σ' τ' z' hQ hAd
    have hA' : kn_At M lv σ' τ' z' (c - c1) (n - n1) D cs z0 ar s n0 a0 mc ms ad' T'.heap (locs ++ L) ls (cells + c1) (slots + n1) :=
      ⟨key ad' z' hAd, ⟨by have := hA.2.1.1; omega, by have := hA.2.1.2; omega⟩, by rw [e1]; exact hWd, k3, by rw [g3]; exact hA.2.2.2.2⟩
    cases v' with
    | none =>
      obtain ⟨t2, a1, b1⟩ := g1 D cs z0 ar p l e R s m args below meth cd n0 a0 mc ms QF Cx ad' T'.heap (locs ++ L) ls (cells + c1) (slots + n1) hA' T' rfl X'
      rw [g2] at a1
      exact ⟨t2, st t2 a1, b1⟩
    | some w =>
      obtain ⟨t2, a1, b1⟩ := g1 D cs z0 ar p l e R s m args below meth cd n0 a0 mc ms QF Cx ad' T'.heap (locs ++ L) ls (cells + c1) (slots + n1) hA' T' rfl X'
      rw [List.map_cons, g2] at a1
      exact ⟨t2, st t2 a1, b1⟩
  · obtain ⟨k1, k2, k3⟩ := vx_keep (A0 := kn_A z0) (A1 := kn_A z0) h0 e1 hA.2.2.2.1 (fun _ _ h => h) (fun _ h => h) hL hF
    obtain ⟨g1, g2, g3⟩ := hk ad' (.inr E) σ' τ' z' hQ hAd
    have hA' : kn_At M lv σ' τ' z' (c - c1) (n - n1) D cs z0 ar s n0 a0 mc ms ad' T'.heap (locs ++ L) ls (cells + c1) (slots + n1) :=
      ⟨key ad' z' hAd, ⟨by have := hA.2.1.1; omega, by have := hA.2.1.2; omega⟩, by rw [e1]; exact hWd, k3, by rw [g3]; exact hA.2.2.2.2⟩
    obtain ⟨t2, a1, b1⟩ := g1 D cs z0 ar p l e R s m args below meth cd n0 a0 mc ms QF Cx ad' T'.heap (locs ++ L) ls (cells + c1) (slots + n1) hA' q ce (rest.map (kn_cv ad ar)) (by rw [e1]; exact hce) hcv hcl T' rfl X'
    exact ⟨t2, st.trans a1, b1⟩
end KNE
end
section
section KNR
variable {X : kn_X} {M : kn_M} {pc : Nat} {lv : kn_L} {σ : kn_S} {τ : kn_T} {z : kn_Z} {c n : Nat} {Q : kn_Q}
theorem k_iadd {x y : Int32} {st : List Value} (hd : decode M.2.1 pc = .ok (.iadd, 1)) (k : kn_Go X M (pc + 1) lv (.int (x + y) :: st) σ τ z c n Q) : kn_Go X M pc lv (.int y :: .int x :: st) σ τ z c n Q := by
  intro D cs z0 ar p l e R s m args below meth cd n0 a0 mc ms QF Cx ad H locs ls cells slots hA
  exact lv_iadd Cx.1.1.1 Cx.1.1.2.1 hd (k D cs z0 ar p l e R s m args below meth cd n0 a0 mc ms QF Cx ad H locs ls cells slots hA)
theorem k_isub {x y : Int32} {st : List Value} (hd : decode M.2.1 pc = .ok (.isub, 1)) (k : kn_Go X M (pc + 1) lv (.int (x - y) :: st) σ τ z c n Q) : kn_Go X M pc lv (.int y :: .int x :: st) σ τ z c n Q := by
  intro D cs z0 ar p l e R s m args below meth cd n0 a0 mc ms QF Cx ad H locs ls cells slots hA
  exact lv_isub Cx.1.1.1 Cx.1.1.2.1 hd (k D cs z0 ar p l e R s m args below meth cd n0 a0 mc ms QF Cx ad H locs ls cells slots hA)
theorem k_imul {x y : Int32} {st : List Value} (hd : decode M.2.1 pc = .ok (.imul, 1)) (k : kn_Go X M (pc + 1) lv (.int (x * y) :: st) σ τ z c n Q) : kn_Go X M pc lv (.int y :: .int x :: st) σ τ z c n Q := by
  intro D cs z0 ar p l e R s m args below meth cd n0 a0 mc ms QF Cx ad H locs ls cells slots hA
  exact lv_imul Cx.1.1.1 Cx.1.1.2.1 hd (k D cs z0 ar p l e R s m args below meth cd n0 a0 mc ms QF Cx ad H locs ls cells slots hA)
theorem k_iand {x y : Int32} {st : List Value} (hd : decode M.2.1 pc = .ok (.iand, 1)) (k : kn_Go X M (pc + 1) lv (.int (x &&& y) :: st) σ τ z c n Q) : kn_Go X M pc lv (.int y :: .int x :: st) σ τ z c n Q := by
  intro D cs z0 ar p l e R s m args below meth cd n0 a0 mc ms QF Cx ad H locs ls cells slots hA
  exact lv_iand Cx.1.1.1 Cx.1.1.2.1 hd (k D cs z0 ar p l e R s m args below meth cd n0 a0 mc ms QF Cx ad H locs ls cells slots hA)
theorem k_ixor {x y : Int32} {st : List Value} (hd : decode M.2.1 pc = .ok (.ixor, 1)) (k : kn_Go X M (pc + 1) lv (.int (x ^^^ y) :: st) σ τ z c n Q) : kn_Go X M pc lv (.int y :: .int x :: st) σ τ z c n Q := by
  intro D cs z0 ar p l e R s m args below meth cd n0 a0 mc ms QF Cx ad H locs ls cells slots hA
  exact lv_ixor Cx.1.1.1 Cx.1.1.2.1 hd (k D cs z0 ar p l e R s m args below meth cd n0 a0 mc ms QF Cx ad H locs ls cells slots hA)
theorem k_idiv {x y : Int32} {st : List Value} (hd : decode M.2.1 pc = .ok (.idiv, 1)) (hne : ¬ y = 0) (k : kn_Go X M (pc + 1) lv (.int (x / y) :: st) σ τ z c n Q) : kn_Go X M pc lv (.int y :: .int x :: st) σ τ z c n Q := by
  intro D cs z0 ar p l e R s m args below meth cd n0 a0 mc ms QF Cx ad H locs ls cells slots hA
  exact lv_idiv Cx.1.1.1 Cx.1.1.2.1 hd hne (k D cs z0 ar p l e R s m args below meth cd n0 a0 mc ms QF Cx ad H locs ls cells slots hA)
theorem k_irem {x y : Int32} {st : List Value} (hd : decode M.2.1 pc = .ok (.irem, 1)) (hne : ¬ y = 0) (k : kn_Go X M (pc + 1) lv (.int (x - x / y * y) :: st) σ τ z c n Q) : kn_Go X M pc lv (.int y :: .int x :: st) σ τ z c n Q := by
  intro D cs z0 ar p l e R s m args below meth cd n0 a0 mc ms QF Cx ad H locs ls cells slots hA
  exact lv_irem Cx.1.1.1 Cx.1.1.2.1 hd hne (k D cs z0 ar p l e R s m args below meth cd n0 a0 mc ms QF Cx ad H locs ls cells slots hA)
theorem k_ladd {x y : Int64} {st : List Value} (hd : decode M.2.1 pc = .ok (.ladd, 1)) (k : kn_Go X M (pc + 1) lv (.long (x + y) :: st) σ τ z c n Q) : kn_Go X M pc lv (.long y :: .long x :: st) σ τ z c n Q := by
  intro D cs z0 ar p l e R s m args below meth cd n0 a0 mc ms QF Cx ad H locs ls cells slots hA
  exact lv_ladd Cx.1.1.1 Cx.1.1.2.1 hd (k D cs z0 ar p l e R s m args below meth cd n0 a0 mc ms QF Cx ad H locs ls cells slots hA)
theorem k_lmul {x y : Int64} {st : List Value} (hd : decode M.2.1 pc = .ok (.lmul, 1)) (k : kn_Go X M (pc + 1) lv (.long (x * y) :: st) σ τ z c n Q) : kn_Go X M pc lv (.long y :: .long x :: st) σ τ z c n Q := by
  intro D cs z0 ar p l e R s m args below meth cd n0 a0 mc ms QF Cx ad H locs ls cells slots hA
  exact lv_lmul Cx.1.1.1 Cx.1.1.2.1 hd (k D cs z0 ar p l e R s m args below meth cd n0 a0 mc ms QF Cx ad H locs ls cells slots hA)
theorem k_lrem {x y : Int64} {st : List Value} (hd : decode M.2.1 pc = .ok (.lrem, 1)) (hne : ¬ y = 0) (k : kn_Go X M (pc + 1) lv (.long (x - x / y * y) :: st) σ τ z c n Q) : kn_Go X M pc lv (.long y :: .long x :: st) σ τ z c n Q := by
  intro D cs z0 ar p l e R s m args below meth cd n0 a0 mc ms QF Cx ad H locs ls cells slots hA
  exact lv_lrem Cx.1.1.1 Cx.1.1.2.1 hd hne (k D cs z0 ar p l e R s m args below meth cd n0 a0 mc ms QF Cx ad H locs ls cells slots hA)
theorem k_lcmp {x y : Int64} {st : List Value} (hd : decode M.2.1 pc = .ok (.lcmp, 1)) (k : kn_Go X M (pc + 1) lv (.int (lg_cmp x y) :: st) σ τ z c n Q) : kn_Go X M pc lv (.long y :: .long x :: st) σ τ z c n Q := by
  intro D cs z0 ar p l e R s m args below meth cd n0 a0 mc ms QF Cx ad H locs ls cells slots hA
  exact W.lcmp Cx.1.1.1 Cx.1.1.2.1 hd (k D cs z0 ar p l e R s m args below meth cd n0 a0 mc ms QF Cx ad H locs ls cells slots hA)
theorem k_i2l {x : Int32} {st : List Value} (hd : decode M.2.1 pc = .ok (.i2l, 1)) (k : kn_Go X M (pc + 1) lv (.long x.toInt64 :: st) σ τ z c n Q) : kn_Go X M pc lv (.int x :: st) σ τ z c n Q := by
  intro D cs z0 ar p l e R s m args below meth cd n0 a0 mc ms QF Cx ad H locs ls cells slots hA
  exact lv_i2l Cx.1.1.1 Cx.1.1.2.1 hd rfl (k D cs z0 ar p l e R s m args below meth cd n0 a0 mc ms QF Cx ad H locs ls cells slots hA)
theorem k_l2i {x : Int64} {st : List Value} (hd : decode M.2.1 pc = .ok (.l2i, 1)) (k : kn_Go X M (pc + 1) lv (.int x.toInt32 :: st) σ τ z c n Q) : kn_Go X M pc lv (.long x :: st) σ τ z c n Q := by
  intro D cs z0 ar p l e R s m args below meth cd n0 a0 mc ms QF Cx ad H locs ls cells slots hA
  exact lv_l2i Cx.1.1.1 Cx.1.1.2.1 hd rfl (k D cs z0 ar p l e R s m args below meth cd n0 a0 mc ms QF Cx ad H locs ls cells slots hA)
theorem k_i2f {x : Int32} {st : List Value} (hd : decode M.2.1 pc = .ok (.i2f, 1)) (k : kn_Go X M (pc + 1) lv (.float (FP.i2f x) :: st) σ τ z c n Q) : kn_Go X M pc lv (.int x :: st) σ τ z c n Q := by
  intro D cs z0 ar p l e R s m args below meth cd n0 a0 mc ms QF Cx ad H locs ls cells slots hA
  exact lv_i2f Cx.1.1.1 Cx.1.1.2.1 hd (k D cs z0 ar p l e R s m args below meth cd n0 a0 mc ms QF Cx ad H locs ls cells slots hA)
theorem k_i2d {x : Int32} {st : List Value} (hd : decode M.2.1 pc = .ok (.i2d, 1)) (k : kn_Go X M (pc + 1) lv (.double (FP.i2d x) :: st) σ τ z c n Q) : kn_Go X M pc lv (.int x :: st) σ τ z c n Q := by
  intro D cs z0 ar p l e R s m args below meth cd n0 a0 mc ms QF Cx ad H locs ls cells slots hA
  exact lv_i2d Cx.1.1.1 Cx.1.1.2.1 hd (k D cs z0 ar p l e R s m args below meth cd n0 a0 mc ms QF Cx ad H locs ls cells slots hA)
theorem k_f2i {x : UInt32} {st : List Value} (hd : decode M.2.1 pc = .ok (.f2i, 1)) (k : kn_Go X M (pc + 1) lv (.int (FP.f2i x) :: st) σ τ z c n Q) : kn_Go X M pc lv (.float x :: st) σ τ z c n Q := by
  intro D cs z0 ar p l e R s m args below meth cd n0 a0 mc ms QF Cx ad H locs ls cells slots hA
  exact lv_f2i Cx.1.1.1 Cx.1.1.2.1 hd (k D cs z0 ar p l e R s m args below meth cd n0 a0 mc ms QF Cx ad H locs ls cells slots hA)
theorem k_fmul {x y : UInt32} {st : List Value} (hd : decode M.2.1 pc = .ok (.fmul, 1)) (hne : vf_n32 (FP.fmul x y)) (k : kn_Go X M (pc + 1) lv (.float (FP.fmul x y) :: st) σ τ z c n Q) : kn_Go X M pc lv (.float y :: .float x :: st) σ τ z c n Q := by
  intro D cs z0 ar p l e R s m args below meth cd n0 a0 mc ms QF Cx ad H locs ls cells slots hA
  exact lv_fmul Cx.1.1.1 Cx.1.1.2.1 hd hne (k D cs z0 ar p l e R s m args below meth cd n0 a0 mc ms QF Cx ad H locs ls cells slots hA)
theorem k_fdiv {x y : UInt32} {st : List Value} (hd : decode M.2.1 pc = .ok (.fdiv, 1)) (hne : vf_n32 (FP.fdiv x y)) (k : kn_Go X M (pc + 1) lv (.float (FP.fdiv x y) :: st) σ τ z c n Q) : kn_Go X M pc lv (.float y :: .float x :: st) σ τ z c n Q := by
  intro D cs z0 ar p l e R s m args below meth cd n0 a0 mc ms QF Cx ad H locs ls cells slots hA
  exact lv_fdiv Cx.1.1.1 Cx.1.1.2.1 hd hne (k D cs z0 ar p l e R s m args below meth cd n0 a0 mc ms QF Cx ad H locs ls cells slots hA)
theorem k_fsub {x y : UInt32} {st : List Value} (hd : decode M.2.1 pc = .ok (.fsub, 1)) (hne : vf_n32 (FP.fsub x y)) (k : kn_Go X M (pc + 1) lv (.float (FP.fsub x y) :: st) σ τ z c n Q) : kn_Go X M pc lv (.float y :: .float x :: st) σ τ z c n Q := by
  intro D cs z0 ar p l e R s m args below meth cd n0 a0 mc ms QF Cx ad H locs ls cells slots hA
  exact lv_fsub Cx.1.1.1 Cx.1.1.2.1 hd hne (k D cs z0 ar p l e R s m args below meth cd n0 a0 mc ms QF Cx ad H locs ls cells slots hA)
theorem k_ddiv {x y : UInt64} {st : List Value} (hd : decode M.2.1 pc = .ok (.ddiv, 1)) (hne : vf_n64 (FP.ddiv x y)) (k : kn_Go X M (pc + 1) lv (.double (FP.ddiv x y) :: st) σ τ z c n Q) : kn_Go X M pc lv (.double y :: .double x :: st) σ τ z c n Q := by
  intro D cs z0 ar p l e R s m args below meth cd n0 a0 mc ms QF Cx ad H locs ls cells slots hA
  exact lv_ddiv Cx.1.1.1 Cx.1.1.2.1 hd hne (k D cs z0 ar p l e R s m args below meth cd n0 a0 mc ms QF Cx ad H locs ls cells slots hA)
theorem k_dsub {x y : UInt64} {st : List Value} (hd : decode M.2.1 pc = .ok (.dsub, 1)) (hne : vf_n64 (FP.dsub x y)) (k : kn_Go X M (pc + 1) lv (.double (FP.dsub x y) :: st) σ τ z c n Q) : kn_Go X M pc lv (.double y :: .double x :: st) σ τ z c n Q := by
  intro D cs z0 ar p l e R s m args below meth cd n0 a0 mc ms QF Cx ad H locs ls cells slots hA
  exact lv_dsub Cx.1.1.1 Cx.1.1.2.1 hd hne (k D cs z0 ar p l e R s m args below meth cd n0 a0 mc ms QF Cx ad H locs ls cells slots hA)
theorem k_fcmp {x y : UInt32} {o : CmpOp} {st : List Value} (hd : decode M.2.1 pc = .ok (.fcmp o, 1)) (k : kn_Go X M (pc + 1) lv (.int (Op.cmpValue (FP.fcmp x y) o) :: st) σ τ z c n Q) : kn_Go X M pc lv (.float y :: .float x :: st) σ τ z c n Q := by
  intro D cs z0 ar p l e R s m args below meth cd n0 a0 mc ms QF Cx ad H locs ls cells slots hA
  exact lv_fcmp Cx.1.1.1 Cx.1.1.2.1 hd (k D cs z0 ar p l e R s m args below meth cd n0 a0 mc ms QF Cx ad H locs ls cells slots hA)
theorem k_dcmp {x y : UInt64} {o : CmpOp} {st : List Value} (hd : decode M.2.1 pc = .ok (.dcmp o, 1)) (k : kn_Go X M (pc + 1) lv (.int (Op.cmpValue (FP.dcmp x y) o) :: st) σ τ z c n Q) : kn_Go X M pc lv (.double y :: .double x :: st) σ τ z c n Q := by
  intro D cs z0 ar p l e R s m args below meth cd n0 a0 mc ms QF Cx ad H locs ls cells slots hA
  exact lv_dcmp Cx.1.1.1 Cx.1.1.2.1 hd (k D cs z0 ar p l e R s m args below meth cd n0 a0 mc ms QF Cx ad H locs ls cells slots hA)
theorem k_iconst {i : Int} {st : List Value} (v : Int32) (hd : decode M.2.1 pc = .ok (.iconst i, 1)) (hv : Int32.ofInt i = v) (k : kn_Go X M (pc + 1) lv (.int v :: st) σ τ z c n Q) : kn_Go X M pc lv st σ τ z c n Q := by
  intro D cs z0 ar p l e R s m args below meth cd n0 a0 mc ms QF Cx ad H locs ls cells slots hA
  exact lv_iconst Cx.1.1.1 Cx.1.1.2.1 hd hv (k D cs z0 ar p l e R s m args below meth cd n0 a0 mc ms QF Cx ad H locs ls cells slots hA)
theorem k_bipush {i : Int} {st : List Value} (v : Int32) (hd : decode M.2.1 pc = .ok (.bipush i, 2)) (hv : (Int8.ofInt i).toInt32 = v) (k : kn_Go X M (pc + 2) lv (.int v :: st) σ τ z c n Q) : kn_Go X M pc lv st σ τ z c n Q := by
  intro D cs z0 ar p l e R s m args below meth cd n0 a0 mc ms QF Cx ad H locs ls cells slots hA
  exact lv_bipush Cx.1.1.1 Cx.1.1.2.1 hd hv (k D cs z0 ar p l e R s m args below meth cd n0 a0 mc ms QF Cx ad H locs ls cells slots hA)
theorem k_sipush {i : Int} {st : List Value} (v : Int32) (hd : decode M.2.1 pc = .ok (.sipush i, 3)) (hv : (Int16.ofInt i).toInt32 = v) (k : kn_Go X M (pc + 3) lv (.int v :: st) σ τ z c n Q) : kn_Go X M pc lv st σ τ z c n Q := by
  intro D cs z0 ar p l e R s m args below meth cd n0 a0 mc ms QF Cx ad H locs ls cells slots hA
  exact lv_sipush Cx.1.1.1 Cx.1.1.2.1 hd hv (k D cs z0 ar p l e R s m args below meth cd n0 a0 mc ms QF Cx ad H locs ls cells slots hA)
theorem k_lconst {i : Fin 2} {st : List Value} (v : Int64) (hd : decode M.2.1 pc = .ok (.lconst i, 1)) (hv : Int64.ofNat (i : Nat) = v) (k : kn_Go X M (pc + 1) lv (.long v :: st) σ τ z c n Q) : kn_Go X M pc lv st σ τ z c n Q := by
  intro D cs z0 ar p l e R s m args below meth cd n0 a0 mc ms QF Cx ad H locs ls cells slots hA
  exact lv_lconst Cx.1.1.1 Cx.1.1.2.1 hd hv (k D cs z0 ar p l e R s m args below meth cd n0 a0 mc ms QF Cx ad H locs ls cells slots hA)
theorem k_fconst0 {st : List Value} (hd : decode M.2.1 pc = .ok (.fconst 0, 1)) (k : kn_Go X M (pc + 1) lv (.float 0 :: st) σ τ z c n Q) : kn_Go X M pc lv st σ τ z c n Q := by
  intro D cs z0 ar p l e R s m args below meth cd n0 a0 mc ms QF Cx ad H locs ls cells slots hA
  exact lv_fconst0 Cx.1.1.1 Cx.1.1.2.1 hd (k D cs z0 ar p l e R s m args below meth cd n0 a0 mc ms QF Cx ad H locs ls cells slots hA)
theorem k_fconst1 {st : List Value} (hd : decode M.2.1 pc = .ok (.fconst 1, 1)) (k : kn_Go X M (pc + 1) lv (.float 0x3f800000 :: st) σ τ z c n Q) : kn_Go X M pc lv st σ τ z c n Q := by
  intro D cs z0 ar p l e R s m args below meth cd n0 a0 mc ms QF Cx ad H locs ls cells slots hA
  exact lv_fconst1 Cx.1.1.1 Cx.1.1.2.1 hd (k D cs z0 ar p l e R s m args below meth cd n0 a0 mc ms QF Cx ad H locs ls cells slots hA)
theorem k_fconst2 {st : List Value} (hd : decode M.2.1 pc = .ok (.fconst 2, 1)) (k : kn_Go X M (pc + 1) lv (.float 0x40000000 :: st) σ τ z c n Q) : kn_Go X M pc lv st σ τ z c n Q := by
  intro D cs z0 ar p l e R s m args below meth cd n0 a0 mc ms QF Cx ad H locs ls cells slots hA
  exact lv_fconst2 Cx.1.1.1 Cx.1.1.2.1 hd (k D cs z0 ar p l e R s m args below meth cd n0 a0 mc ms QF Cx ad H locs ls cells slots hA)
theorem k_dconst0 {st : List Value} (hd : decode M.2.1 pc = .ok (.dconst 0, 1)) (k : kn_Go X M (pc + 1) lv (.double 0 :: st) σ τ z c n Q) : kn_Go X M pc lv st σ τ z c n Q := by
  intro D cs z0 ar p l e R s m args below meth cd n0 a0 mc ms QF Cx ad H locs ls cells slots hA
  exact lv_dconst0 Cx.1.1.1 Cx.1.1.2.1 hd (k D cs z0 ar p l e R s m args below meth cd n0 a0 mc ms QF Cx ad H locs ls cells slots hA)
theorem k_null {st : List Value} (hd : decode M.2.1 pc = .ok (.aconst_null, 1)) (k : kn_Go X M (pc + 1) lv (.null :: st) σ τ z c n Q) : kn_Go X M pc lv st σ τ z c n Q := by
  intro D cs z0 ar p l e R s m args below meth cd n0 a0 mc ms QF Cx ad H locs ls cells slots hA
  exact lv_null Cx.1.1.1 Cx.1.1.2.1 hd (k D cs z0 ar p l e R s m args below meth cd n0 a0 mc ms QF Cx ad H locs ls cells slots hA)
theorem k_ldc {i : Nat} {v : Int32} {st : List Value} (hd : decode M.2.1 pc = .ok (.ldc i, 2)) (hc : Cond.constant M.1.cls i v ∈ kn_ws) (k : kn_Go X M (pc + 2) lv (.int v :: st) σ τ z c n Q) : kn_Go X M pc lv st σ τ z c n Q := by
  intro D cs z0 ar p l e R s m args below meth cd n0 a0 mc ms QF Cx ad H locs ls cells slots hA
  exact lv_ldc Cx.1.1.1 Cx.1.1.2.1 Cx.1.1.2.2.2.1 (Cx.1.1.2.2.2.2 _ hc) hd (k D cs z0 ar p l e R s m args below meth cd n0 a0 mc ms QF Cx ad H locs ls cells slots hA)
theorem k_ldc2 {i : Nat} {v : Int64} {st : List Value} (hd : decode M.2.1 pc = .ok (.ldc2_w i, 3)) (hc : Cond.constantLong M.1.cls i v ∈ kn_ws) (k : kn_Go X M (pc + 3) lv (.long v :: st) σ τ z c n Q) : kn_Go X M pc lv st σ τ z c n Q := by
  intro D cs z0 ar p l e R s m args below meth cd n0 a0 mc ms QF Cx ad H locs ls cells slots hA
  exact lv_ldc2 Cx.1.1.1 Cx.1.1.2.1 Cx.1.1.2.2.2.1 (Cx.1.1.2.2.2.2 _ hc) hd (k D cs z0 ar p l e R s m args below meth cd n0 a0 mc ms QF Cx ad H locs ls cells slots hA)
theorem k_ldc2d {i : Nat} {v : UInt64} {st : List Value} (hd : decode M.2.1 pc = .ok (.ldc2_w i, 3)) (hc : Cond.constantDouble M.1.cls i v ∈ kn_ws) (k : kn_Go X M (pc + 3) lv (.double v :: st) σ τ z c n Q) : kn_Go X M pc lv st σ τ z c n Q := by
  intro D cs z0 ar p l e R s m args below meth cd n0 a0 mc ms QF Cx ad H locs ls cells slots hA
  exact lv_ldc2d Cx.1.1.1 Cx.1.1.2.1 Cx.1.1.2.2.2.1 (Cx.1.1.2.2.2.2 _ hc) hd (k D cs z0 ar p l e R s m args below meth cd n0 a0 mc ms QF Cx ad H locs ls cells slots hA)
theorem k_iload_n {k9 : Fin 4} {x : Int32} {st : List Value} (i : Nat) (hd : decode M.2.1 pc = .ok (.iload_n k9, 1)) (hi : (k9 : Nat) = i) (hg : kn_get lv i = some (.int x)) (k : kn_Go X M (pc + 1) lv (.int x :: st) σ τ z c n Q) : kn_Go X M pc lv st σ τ z c n Q := by
  intro D cs z0 ar p l e R s m args below meth cd n0 a0 mc ms QF Cx ad H locs ls cells slots hA
  exact lv_iload_n Cx.1.1.1 Cx.1.1.2.1 hd hi (kn_loc hA.2.2.2.2 hg) (k D cs z0 ar p l e R s m args below meth cd n0 a0 mc ms QF Cx ad H locs ls cells slots hA)
theorem k_iload {i : Nat} {x : Int32} {st : List Value} (hd : decode M.2.1 pc = .ok (.iload i, 2)) (hg : kn_get lv i = some (.int x)) (k : kn_Go X M (pc + 2) lv (.int x :: st) σ τ z c n Q) : kn_Go X M pc lv st σ τ z c n Q := by
  intro D cs z0 ar p l e R s m args below meth cd n0 a0 mc ms QF Cx ad H locs ls cells slots hA
  exact lv_iload Cx.1.1.1 Cx.1.1.2.1 hd (kn_loc hA.2.2.2.2 hg) (k D cs z0 ar p l e R s m args below meth cd n0 a0 mc ms QF Cx ad H locs ls cells slots hA)
theorem k_lload_n {k9 : Fin 4} {x : Int64} {st : List Value} (i : Nat) (hd : decode M.2.1 pc = .ok (.lload_n k9, 1)) (hi : (k9 : Nat) = i) (hg : kn_get lv i = some (.long x)) (k : kn_Go X M (pc + 1) lv (.long x :: st) σ τ z c n Q) : kn_Go X M pc lv st σ τ z c n Q := by
  intro D cs z0 ar p l e R s m args below meth cd n0 a0 mc ms QF Cx ad H locs ls cells slots hA
  exact lv_lload_n Cx.1.1.1 Cx.1.1.2.1 hd hi (kn_loc hA.2.2.2.2 hg) (k D cs z0 ar p l e R s m args below meth cd n0 a0 mc ms QF Cx ad H locs ls cells slots hA)
theorem k_lload {i : Nat} {x : Int64} {st : List Value} (hd : decode M.2.1 pc = .ok (.lload i, 2)) (hg : kn_get lv i = some (.long x)) (k : kn_Go X M (pc + 2) lv (.long x :: st) σ τ z c n Q) : kn_Go X M pc lv st σ τ z c n Q := by
  intro D cs z0 ar p l e R s m args below meth cd n0 a0 mc ms QF Cx ad H locs ls cells slots hA
  exact lv_lload Cx.1.1.1 Cx.1.1.2.1 hd (kn_loc hA.2.2.2.2 hg) (k D cs z0 ar p l e R s m args below meth cd n0 a0 mc ms QF Cx ad H locs ls cells slots hA)
theorem k_fload_n {k9 : Fin 4} {x : UInt32} {st : List Value} (i : Nat) (hd : decode M.2.1 pc = .ok (.fload_n k9, 1)) (hi : (k9 : Nat) = i) (hg : kn_get lv i = some (.float x)) (k : kn_Go X M (pc + 1) lv (.float x :: st) σ τ z c n Q) : kn_Go X M pc lv st σ τ z c n Q := by
  intro D cs z0 ar p l e R s m args below meth cd n0 a0 mc ms QF Cx ad H locs ls cells slots hA
  exact lv_fload_n Cx.1.1.1 Cx.1.1.2.1 hd hi (kn_loc hA.2.2.2.2 hg) (k D cs z0 ar p l e R s m args below meth cd n0 a0 mc ms QF Cx ad H locs ls cells slots hA)
theorem k_dload {i : Nat} {x : UInt64} {st : List Value} (hd : decode M.2.1 pc = .ok (.dload i, 2)) (hg : kn_get lv i = some (.double x)) (k : kn_Go X M (pc + 2) lv (.double x :: st) σ τ z c n Q) : kn_Go X M pc lv st σ τ z c n Q := by
  intro D cs z0 ar p l e R s m args below meth cd n0 a0 mc ms QF Cx ad H locs ls cells slots hA
  exact lv_dload Cx.1.1.1 Cx.1.1.2.1 hd (kn_loc hA.2.2.2.2 hg) (k D cs z0 ar p l e R s m args below meth cd n0 a0 mc ms QF Cx ad H locs ls cells slots hA)
theorem k_aload_n {k9 : Fin 4} {r : Nat} {st : List Value} (i : Nat) (hd : decode M.2.1 pc = .ok (.aload_n k9, 1)) (hi : (k9 : Nat) = i) (hg : kn_get lv i = some (.ref r)) (k : kn_Go X M (pc + 1) lv (.ref r :: st) σ τ z c n Q) : kn_Go X M pc lv st σ τ z c n Q := by
  intro D cs z0 ar p l e R s m args below meth cd n0 a0 mc ms QF Cx ad H locs ls cells slots hA
  exact lv_aload_n Cx.1.1.1 Cx.1.1.2.1 hd hi (kn_loc hA.2.2.2.2 hg) (k D cs z0 ar p l e R s m args below meth cd n0 a0 mc ms QF Cx ad H locs ls cells slots hA)
theorem k_aload {i : Nat} {r : Nat} {st : List Value} (hd : decode M.2.1 pc = .ok (.aload i, 2)) (hg : kn_get lv i = some (.ref r)) (k : kn_Go X M (pc + 2) lv (.ref r :: st) σ τ z c n Q) : kn_Go X M pc lv st σ τ z c n Q := by
  intro D cs z0 ar p l e R s m args below meth cd n0 a0 mc ms QF Cx ad H locs ls cells slots hA
  exact lv_aload Cx.1.1.1 Cx.1.1.2.1 hd (kn_loc hA.2.2.2.2 hg) (k D cs z0 ar p l e R s m args below meth cd n0 a0 mc ms QF Cx ad H locs ls cells slots hA)
theorem k_aload_nR {k9 : Fin 4} {r : Nat} {st : List Value} (i : Nat) (hd : decode M.2.1 pc = .ok (.aload_n k9, 1)) (hi : (k9 : Nat) = i) (hg : kn_get lv i = some (.retAddr r)) (k : kn_Go X M (pc + 1) lv (.retAddr r :: st) σ τ z c n Q) : kn_Go X M pc lv st σ τ z c n Q := by
  intro D cs z0 ar p l e R s m args below meth cd n0 a0 mc ms QF Cx ad H locs ls cells slots hA
  exact lv_aload_n Cx.1.1.1 Cx.1.1.2.1 hd hi (kn_loc hA.2.2.2.2 hg) (k D cs z0 ar p l e R s m args below meth cd n0 a0 mc ms QF Cx ad H locs ls cells slots hA)
theorem k_aloadR {i : Nat} {r : Nat} {st : List Value} (hd : decode M.2.1 pc = .ok (.aload i, 2)) (hg : kn_get lv i = some (.retAddr r)) (k : kn_Go X M (pc + 2) lv (.retAddr r :: st) σ τ z c n Q) : kn_Go X M pc lv st σ τ z c n Q := by
  intro D cs z0 ar p l e R s m args below meth cd n0 a0 mc ms QF Cx ad H locs ls cells slots hA
  exact lv_aload Cx.1.1.1 Cx.1.1.2.1 hd (kn_loc hA.2.2.2.2 hg) (k D cs z0 ar p l e R s m args below meth cd n0 a0 mc ms QF Cx ad H locs ls cells slots hA)
theorem k_aload_nN {k9 : Fin 4} {st : List Value} (i : Nat) (hd : decode M.2.1 pc = .ok (.aload_n k9, 1)) (hi : (k9 : Nat) = i) (hg : kn_get lv i = some .null) (k : kn_Go X M (pc + 1) lv (.null :: st) σ τ z c n Q) : kn_Go X M pc lv st σ τ z c n Q := by
  intro D cs z0 ar p l e R s m args below meth cd n0 a0 mc ms QF Cx ad H locs ls cells slots hA
  exact lv_aload_nN Cx.1.1.1 Cx.1.1.2.1 hd hi (kn_loc hA.2.2.2.2 hg) (k D cs z0 ar p l e R s m args below meth cd n0 a0 mc ms QF Cx ad H locs ls cells slots hA)
theorem k_istore_n {k9 : Fin 4} {x : Int32} {st : List Value} (i : Nat) {lv' : kn_L} (hd : decode M.2.1 pc = .ok (.istore_n k9, 1)) (hi : (k9 : Nat) = i) (hn : i < M.2.2.1) (hl : kn_put lv i (.int x) = lv') (k : kn_Go X M (pc + 1) lv' st σ τ z c n Q) : kn_Go X M pc lv (.int x :: st) σ τ z c n Q := by
  intro D cs z0 ar p l e R s m args below meth cd n0 a0 mc ms QF Cx ad H locs ls cells slots hA
  subst hl
  exact lv_istore_n Cx.1.1.1 Cx.1.1.2.1 hd hi hA.2.2.2.2 hn (kn_put_lc ad ar lv i (.int x)) (fun ls' hl' => k D cs z0 ar p l e R s m args below meth cd n0 a0 mc ms QF Cx ad H locs ls' cells slots ⟨hA.1, hA.2.1, hA.2.2.1, hA.2.2.2.1, hl'⟩)
theorem k_istore {i : Nat} {x : Int32} {st : List Value} {lv' : kn_L} (hd : decode M.2.1 pc = .ok (.istore i, 2)) (hn : i < M.2.2.1) (hl : kn_put lv i (.int x) = lv') (k : kn_Go X M (pc + 2) lv' st σ τ z c n Q) : kn_Go X M pc lv (.int x :: st) σ τ z c n Q := by
  intro D cs z0 ar p l e R s m args below meth cd n0 a0 mc ms QF Cx ad H locs ls cells slots hA
  subst hl
  exact lv_istore Cx.1.1.1 Cx.1.1.2.1 hd hA.2.2.2.2 hn (kn_put_lc ad ar lv i (.int x)) (fun ls' hl' => k D cs z0 ar p l e R s m args below meth cd n0 a0 mc ms QF Cx ad H locs ls' cells slots ⟨hA.1, hA.2.1, hA.2.2.1, hA.2.2.2.1, hl'⟩)
theorem k_lstore_n {k9 : Fin 4} {x : Int64} {st : List Value} (i : Nat) {lv' : kn_L} (hd : decode M.2.1 pc = .ok (.lstore_n k9, 1)) (hi : (k9 : Nat) = i) (hn : i + 1 < M.2.2.1) (hl : kn_put2 lv i (.long x) = lv') (k : kn_Go X M (pc + 1) lv' st σ τ z c n Q) : kn_Go X M pc lv (.long x :: st) σ τ z c n Q := by
  intro D cs z0 ar p l e R s m args below meth cd n0 a0 mc ms QF Cx ad H locs ls cells slots hA
  subst hl
  exact lv_lstore_n Cx.1.1.1 Cx.1.1.2.1 hd hi hA.2.2.2.2 hn (kn_put2_lc ad ar lv i (.long x)) (fun ls' hl' => k D cs z0 ar p l e R s m args below meth cd n0 a0 mc ms QF Cx ad H locs ls' cells slots ⟨hA.1, hA.2.1, hA.2.2.1, hA.2.2.2.1, hl'⟩)
theorem k_fstore_n {k9 : Fin 4} {x : UInt32} {st : List Value} (i : Nat) {lv' : kn_L} (hd : decode M.2.1 pc = .ok (.fstore_n k9, 1)) (hi : (k9 : Nat) = i) (hn : i < M.2.2.1) (hl : kn_put lv i (.float x) = lv') (k : kn_Go X M (pc + 1) lv' st σ τ z c n Q) : kn_Go X M pc lv (.float x :: st) σ τ z c n Q := by
  intro D cs z0 ar p l e R s m args below meth cd n0 a0 mc ms QF Cx ad H locs ls cells slots hA
  subst hl
  exact lv_fstore_n Cx.1.1.1 Cx.1.1.2.1 hd hi hA.2.2.2.2 hn (kn_put_lc ad ar lv i (.float x)) (fun ls' hl' => k D cs z0 ar p l e R s m args below meth cd n0 a0 mc ms QF Cx ad H locs ls' cells slots ⟨hA.1, hA.2.1, hA.2.2.1, hA.2.2.2.1, hl'⟩)
theorem k_dstore {i : Nat} {x : UInt64} {st : List Value} {lv' : kn_L} (hd : decode M.2.1 pc = .ok (.dstore i, 2)) (hn : i + 1 < M.2.2.1) (hl : kn_put2 lv i (.double x) = lv') (k : kn_Go X M (pc + 2) lv' st σ τ z c n Q) : kn_Go X M pc lv (.double x :: st) σ τ z c n Q := by
  intro D cs z0 ar p l e R s m args below meth cd n0 a0 mc ms QF Cx ad H locs ls cells slots hA
  subst hl
  exact lv_dstore Cx.1.1.1 Cx.1.1.2.1 hd hA.2.2.2.2 hn (kn_put2_lc ad ar lv i (.double x)) (fun ls' hl' => k D cs z0 ar p l e R s m args below meth cd n0 a0 mc ms QF Cx ad H locs ls' cells slots ⟨hA.1, hA.2.1, hA.2.2.1, hA.2.2.2.1, hl'⟩)
theorem k_astore_n {k9 : Fin 4} {r : Nat} {st : List Value} (i : Nat) {lv' : kn_L} (hd : decode M.2.1 pc = .ok (.astore_n k9, 1)) (hi : (k9 : Nat) = i) (hn : i < M.2.2.1) (hl : kn_put lv i (.ref r) = lv') (k : kn_Go X M (pc + 1) lv' st σ τ z c n Q) : kn_Go X M pc lv (.ref r :: st) σ τ z c n Q := by
  intro D cs z0 ar p l e R s m args below meth cd n0 a0 mc ms QF Cx ad H locs ls cells slots hA
  subst hl
  exact lv_astore_n Cx.1.1.1 Cx.1.1.2.1 hd hi hA.2.2.2.2 hn (kn_put_lc ad ar lv i (.ref r)) (fun ls' hl' => k D cs z0 ar p l e R s m args below meth cd n0 a0 mc ms QF Cx ad H locs ls' cells slots ⟨hA.1, hA.2.1, hA.2.2.1, hA.2.2.2.1, hl'⟩)
theorem k_astore_nN {k9 : Fin 4} {st : List Value} (i : Nat) {lv' : kn_L} (hd : decode M.2.1 pc = .ok (.astore_n k9, 1)) (hi : (k9 : Nat) = i) (hn : i < M.2.2.1) (hl : kn_put lv i (.null) = lv') (k : kn_Go X M (pc + 1) lv' st σ τ z c n Q) : kn_Go X M pc lv (.null :: st) σ τ z c n Q := by
  intro D cs z0 ar p l e R s m args below meth cd n0 a0 mc ms QF Cx ad H locs ls cells slots hA
  subst hl
  exact lv_astore_nN Cx.1.1.1 Cx.1.1.2.1 hd hi hA.2.2.2.2 hn (kn_put_lc ad ar lv i .null) (fun ls' hl' => k D cs z0 ar p l e R s m args below meth cd n0 a0 mc ms QF Cx ad H locs ls' cells slots ⟨hA.1, hA.2.1, hA.2.2.1, hA.2.2.2.1, hl'⟩)
theorem k_astore {i : Nat} {r : Nat} {st : List Value} {lv' : kn_L} (hd : decode M.2.1 pc = .ok (.astore i, 2)) (hn : i < M.2.2.1) (hl : kn_put lv i (.ref r) = lv') (k : kn_Go X M (pc + 2) lv' st σ τ z c n Q) : kn_Go X M pc lv (.ref r :: st) σ τ z c n Q := by
  intro D cs z0 ar p l e R s m args below meth cd n0 a0 mc ms QF Cx ad H locs ls cells slots hA
  subst hl
  exact lv_astore Cx.1.1.1 Cx.1.1.2.1 hd hA.2.2.2.2 hn (kn_put_lc ad ar lv i (.ref r)) (fun ls' hl' => k D cs z0 ar p l e R s m args below meth cd n0 a0 mc ms QF Cx ad H locs ls' cells slots ⟨hA.1, hA.2.1, hA.2.2.1, hA.2.2.2.1, hl'⟩)
theorem k_iinc {i : Nat} {d : Int} {x : Int32} {st : List Value} (v : Int32) {lv' : kn_L} (hd : decode M.2.1 pc = .ok (.iinc i d, 3)) (hg : kn_get lv i = some (.int x)) (hv : x + Int32.ofInt d = v) (hn : i < M.2.2.1) (hl : kn_put lv i (.int v) = lv') (k : kn_Go X M (pc + 3) lv' st σ τ z c n Q) : kn_Go X M pc lv st σ τ z c n Q := by
  intro D cs z0 ar p l e R s m args below meth cd n0 a0 mc ms QF Cx ad H locs ls cells slots hA
  subst hl
  obtain ⟨j, hj⟩ := List.getElem?_of_mem (show (i, Value.int x) ∈ kn_lc ad ar lv from List.mem_map.mpr ⟨(i, .int x), kn_get_mem hg, rfl⟩)
  exact lv_iinc Cx.1.1.1 Cx.1.1.2.1 hd hA.2.2.2.2 hj hv hn (kn_put_lc ad ar lv i (.int v)) (fun ls' hl' => k D cs z0 ar p l e R s m args below meth cd n0 a0 mc ms QF Cx ad H locs ls' cells slots ⟨hA.1, hA.2.1, hA.2.2.1, hA.2.2.2.1, hl'⟩)
theorem k_ifeq {x : Int32} {off : Int} {st : List Value} (tgt : Nat) (hd : decode M.2.1 pc = .ok (.ifCond .eq off, 3)) (ht : (pc : Int) + off = (tgt : Int)) (kt : (x = 0) → kn_Go X M tgt lv st σ τ z c n Q) (kf : ¬ (x = 0) → kn_Go X M (pc + 3) lv st σ τ z c n Q) : kn_Go X M pc lv (.int x :: st) σ τ z c n Q := by
  intro D cs z0 ar p l e R s m args below meth cd n0 a0 mc ms QF Cx ad H locs ls cells slots hA
  exact lv_if_eq Cx.1.1.1 Cx.1.1.2.1 hd ht (fun h => kt h D cs z0 ar p l e R s m args below meth cd n0 a0 mc ms QF Cx ad H locs ls cells slots hA) (fun h => kf h D cs z0 ar p l e R s m args below meth cd n0 a0 mc ms QF Cx ad H locs ls cells slots hA)
theorem k_icmpeq {x y : Int32} {off : Int} {st : List Value} (tgt : Nat) (hd : decode M.2.1 pc = .ok (.if_icmp .eq off, 3)) (ht : (pc : Int) + off = (tgt : Int)) (kt : (x = y) → kn_Go X M tgt lv st σ τ z c n Q) (kf : ¬ (x = y) → kn_Go X M (pc + 3) lv st σ τ z c n Q) : kn_Go X M pc lv (.int y :: .int x :: st) σ τ z c n Q := by
  intro D cs z0 ar p l e R s m args below meth cd n0 a0 mc ms QF Cx ad H locs ls cells slots hA
  exact lv_icmp_eq Cx.1.1.1 Cx.1.1.2.1 hd ht (fun h => kt h D cs z0 ar p l e R s m args below meth cd n0 a0 mc ms QF Cx ad H locs ls cells slots hA) (fun h => kf h D cs z0 ar p l e R s m args below meth cd n0 a0 mc ms QF Cx ad H locs ls cells slots hA)
theorem k_ifne {x : Int32} {off : Int} {st : List Value} (tgt : Nat) (hd : decode M.2.1 pc = .ok (.ifCond .ne off, 3)) (ht : (pc : Int) + off = (tgt : Int)) (kt : (¬ x = 0) → kn_Go X M tgt lv st σ τ z c n Q) (kf : (x = 0) → kn_Go X M (pc + 3) lv st σ τ z c n Q) : kn_Go X M pc lv (.int x :: st) σ τ z c n Q := by
  intro D cs z0 ar p l e R s m args below meth cd n0 a0 mc ms QF Cx ad H locs ls cells slots hA
  exact lv_if_ne Cx.1.1.1 Cx.1.1.2.1 hd ht (fun h => kt h D cs z0 ar p l e R s m args below meth cd n0 a0 mc ms QF Cx ad H locs ls cells slots hA) (fun h => kf h D cs z0 ar p l e R s m args below meth cd n0 a0 mc ms QF Cx ad H locs ls cells slots hA)
theorem k_icmpne {x y : Int32} {off : Int} {st : List Value} (tgt : Nat) (hd : decode M.2.1 pc = .ok (.if_icmp .ne off, 3)) (ht : (pc : Int) + off = (tgt : Int)) (kt : (¬ x = y) → kn_Go X M tgt lv st σ τ z c n Q) (kf : (x = y) → kn_Go X M (pc + 3) lv st σ τ z c n Q) : kn_Go X M pc lv (.int y :: .int x :: st) σ τ z c n Q := by
  intro D cs z0 ar p l e R s m args below meth cd n0 a0 mc ms QF Cx ad H locs ls cells slots hA
  exact lv_icmp_ne Cx.1.1.1 Cx.1.1.2.1 hd ht (fun h => kt h D cs z0 ar p l e R s m args below meth cd n0 a0 mc ms QF Cx ad H locs ls cells slots hA) (fun h => kf h D cs z0 ar p l e R s m args below meth cd n0 a0 mc ms QF Cx ad H locs ls cells slots hA)
theorem k_iflt {x : Int32} {off : Int} {st : List Value} (tgt : Nat) (hd : decode M.2.1 pc = .ok (.ifCond .lt off, 3)) (ht : (pc : Int) + off = (tgt : Int)) (kt : (x < 0) → kn_Go X M tgt lv st σ τ z c n Q) (kf : ¬ (x < 0) → kn_Go X M (pc + 3) lv st σ τ z c n Q) : kn_Go X M pc lv (.int x :: st) σ τ z c n Q := by
  intro D cs z0 ar p l e R s m args below meth cd n0 a0 mc ms QF Cx ad H locs ls cells slots hA
  exact lv_if_lt Cx.1.1.1 Cx.1.1.2.1 hd ht (fun h => kt h D cs z0 ar p l e R s m args below meth cd n0 a0 mc ms QF Cx ad H locs ls cells slots hA) (fun h => kf h D cs z0 ar p l e R s m args below meth cd n0 a0 mc ms QF Cx ad H locs ls cells slots hA)
theorem k_icmplt {x y : Int32} {off : Int} {st : List Value} (tgt : Nat) (hd : decode M.2.1 pc = .ok (.if_icmp .lt off, 3)) (ht : (pc : Int) + off = (tgt : Int)) (kt : (x < y) → kn_Go X M tgt lv st σ τ z c n Q) (kf : ¬ (x < y) → kn_Go X M (pc + 3) lv st σ τ z c n Q) : kn_Go X M pc lv (.int y :: .int x :: st) σ τ z c n Q := by
  intro D cs z0 ar p l e R s m args below meth cd n0 a0 mc ms QF Cx ad H locs ls cells slots hA
  exact lv_icmp_lt Cx.1.1.1 Cx.1.1.2.1 hd ht (fun h => kt h D cs z0 ar p l e R s m args below meth cd n0 a0 mc ms QF Cx ad H locs ls cells slots hA) (fun h => kf h D cs z0 ar p l e R s m args below meth cd n0 a0 mc ms QF Cx ad H locs ls cells slots hA)
theorem k_ifge {x : Int32} {off : Int} {st : List Value} (tgt : Nat) (hd : decode M.2.1 pc = .ok (.ifCond .ge off, 3)) (ht : (pc : Int) + off = (tgt : Int)) (kt : (0 ≤ x) → kn_Go X M tgt lv st σ τ z c n Q) (kf : ¬ (0 ≤ x) → kn_Go X M (pc + 3) lv st σ τ z c n Q) : kn_Go X M pc lv (.int x :: st) σ τ z c n Q := by
  intro D cs z0 ar p l e R s m args below meth cd n0 a0 mc ms QF Cx ad H locs ls cells slots hA
  exact lv_if_ge Cx.1.1.1 Cx.1.1.2.1 hd ht (fun h => kt h D cs z0 ar p l e R s m args below meth cd n0 a0 mc ms QF Cx ad H locs ls cells slots hA) (fun h => kf h D cs z0 ar p l e R s m args below meth cd n0 a0 mc ms QF Cx ad H locs ls cells slots hA)
theorem k_icmpge {x y : Int32} {off : Int} {st : List Value} (tgt : Nat) (hd : decode M.2.1 pc = .ok (.if_icmp .ge off, 3)) (ht : (pc : Int) + off = (tgt : Int)) (kt : (y ≤ x) → kn_Go X M tgt lv st σ τ z c n Q) (kf : ¬ (y ≤ x) → kn_Go X M (pc + 3) lv st σ τ z c n Q) : kn_Go X M pc lv (.int y :: .int x :: st) σ τ z c n Q := by
  intro D cs z0 ar p l e R s m args below meth cd n0 a0 mc ms QF Cx ad H locs ls cells slots hA
  exact lv_icmp_ge Cx.1.1.1 Cx.1.1.2.1 hd ht (fun h => kt h D cs z0 ar p l e R s m args below meth cd n0 a0 mc ms QF Cx ad H locs ls cells slots hA) (fun h => kf h D cs z0 ar p l e R s m args below meth cd n0 a0 mc ms QF Cx ad H locs ls cells slots hA)
theorem k_ifgt {x : Int32} {off : Int} {st : List Value} (tgt : Nat) (hd : decode M.2.1 pc = .ok (.ifCond .gt off, 3)) (ht : (pc : Int) + off = (tgt : Int)) (kt : (0 < x) → kn_Go X M tgt lv st σ τ z c n Q) (kf : ¬ (0 < x) → kn_Go X M (pc + 3) lv st σ τ z c n Q) : kn_Go X M pc lv (.int x :: st) σ τ z c n Q := by
  intro D cs z0 ar p l e R s m args below meth cd n0 a0 mc ms QF Cx ad H locs ls cells slots hA
  exact lv_if_gt Cx.1.1.1 Cx.1.1.2.1 hd ht (fun h => kt h D cs z0 ar p l e R s m args below meth cd n0 a0 mc ms QF Cx ad H locs ls cells slots hA) (fun h => kf h D cs z0 ar p l e R s m args below meth cd n0 a0 mc ms QF Cx ad H locs ls cells slots hA)
theorem k_icmpgt {x y : Int32} {off : Int} {st : List Value} (tgt : Nat) (hd : decode M.2.1 pc = .ok (.if_icmp .gt off, 3)) (ht : (pc : Int) + off = (tgt : Int)) (kt : (y < x) → kn_Go X M tgt lv st σ τ z c n Q) (kf : ¬ (y < x) → kn_Go X M (pc + 3) lv st σ τ z c n Q) : kn_Go X M pc lv (.int y :: .int x :: st) σ τ z c n Q := by
  intro D cs z0 ar p l e R s m args below meth cd n0 a0 mc ms QF Cx ad H locs ls cells slots hA
  exact lv_icmp_gt Cx.1.1.1 Cx.1.1.2.1 hd ht (fun h => kt h D cs z0 ar p l e R s m args below meth cd n0 a0 mc ms QF Cx ad H locs ls cells slots hA) (fun h => kf h D cs z0 ar p l e R s m args below meth cd n0 a0 mc ms QF Cx ad H locs ls cells slots hA)
theorem k_ifle {x : Int32} {off : Int} {st : List Value} (tgt : Nat) (hd : decode M.2.1 pc = .ok (.ifCond .le off, 3)) (ht : (pc : Int) + off = (tgt : Int)) (kt : (x ≤ 0) → kn_Go X M tgt lv st σ τ z c n Q) (kf : ¬ (x ≤ 0) → kn_Go X M (pc + 3) lv st σ τ z c n Q) : kn_Go X M pc lv (.int x :: st) σ τ z c n Q := by
  intro D cs z0 ar p l e R s m args below meth cd n0 a0 mc ms QF Cx ad H locs ls cells slots hA
  exact lv_if_le Cx.1.1.1 Cx.1.1.2.1 hd ht (fun h => kt h D cs z0 ar p l e R s m args below meth cd n0 a0 mc ms QF Cx ad H locs ls cells slots hA) (fun h => kf h D cs z0 ar p l e R s m args below meth cd n0 a0 mc ms QF Cx ad H locs ls cells slots hA)
theorem k_icmple {x y : Int32} {off : Int} {st : List Value} (tgt : Nat) (hd : decode M.2.1 pc = .ok (.if_icmp .le off, 3)) (ht : (pc : Int) + off = (tgt : Int)) (kt : (x ≤ y) → kn_Go X M tgt lv st σ τ z c n Q) (kf : ¬ (x ≤ y) → kn_Go X M (pc + 3) lv st σ τ z c n Q) : kn_Go X M pc lv (.int y :: .int x :: st) σ τ z c n Q := by
  intro D cs z0 ar p l e R s m args below meth cd n0 a0 mc ms QF Cx ad H locs ls cells slots hA
  exact lv_icmp_le Cx.1.1.1 Cx.1.1.2.1 hd ht (fun h => kt h D cs z0 ar p l e R s m args below meth cd n0 a0 mc ms QF Cx ad H locs ls cells slots hA) (fun h => kf h D cs z0 ar p l e R s m args below meth cd n0 a0 mc ms QF Cx ad H locs ls cells slots hA)
theorem k_goto {off : Int} {st : List Value} (tgt : Nat) (hd : decode M.2.1 pc = .ok (.goto off, 3)) (ht : (pc : Int) + off = (tgt : Int)) (k : kn_Go X M tgt lv st σ τ z c n Q) : kn_Go X M pc lv st σ τ z c n Q := by
  intro D cs z0 ar p l e R s m args below meth cd n0 a0 mc ms QF Cx ad H locs ls cells slots hA
  exact lv_goto Cx.1.1.1 Cx.1.1.2.1 hd ht (k D cs z0 ar p l e R s m args below meth cd n0 a0 mc ms QF Cx ad H locs ls cells slots hA)
theorem k_ifnull {off : Int} {r : Nat} {st : List Value} (hd : decode M.2.1 pc = .ok (.ifnull off, 3)) (k : kn_Go X M (pc + 3) lv st σ τ z c n Q) : kn_Go X M pc lv (.ref r :: st) σ τ z c n Q := by
  intro D cs z0 ar p l e R s m args below meth cd n0 a0 mc ms QF Cx ad H locs ls cells slots hA
  exact lv_ifnull Cx.1.1.1 Cx.1.1.2.1 hd (k D cs z0 ar p l e R s m args below meth cd n0 a0 mc ms QF Cx ad H locs ls cells slots hA)
theorem k_tsIn {x : Int32} {dflt lo hi : Int} {offs : Array Int} {len : Nat} {off : Int} {st : List Value} (tgt : Nat) (hd : decode M.2.1 pc = .ok (.tableswitch dflt lo hi offs, len)) (h1 : ¬ x.toInt < lo) (h2 : ¬ hi < x.toInt) (ho : offs[(x.toInt - lo).toNat]? = some off) (ht : (pc : Int) + off = (tgt : Int)) (k : kn_Go X M tgt lv st σ τ z c n Q) : kn_Go X M pc lv (.int x :: st) σ τ z c n Q := by
  intro D cs z0 ar p l e R s m args below meth cd n0 a0 mc ms QF Cx ad H locs ls cells slots hA
  exact lv_tableIn Cx.1.1.1 Cx.1.1.2.1 hd h1 h2 ho ht (k D cs z0 ar p l e R s m args below meth cd n0 a0 mc ms QF Cx ad H locs ls cells slots hA)
theorem k_tsOut {x : Int32} {dflt lo hi : Int} {offs : Array Int} {len : Nat} {st : List Value} (tgt : Nat) (hd : decode M.2.1 pc = .ok (.tableswitch dflt lo hi offs, len)) (h1 : x.toInt < lo ∨ hi < x.toInt) (ht : (pc : Int) + dflt = (tgt : Int)) (k : kn_Go X M tgt lv st σ τ z c n Q) : kn_Go X M pc lv (.int x :: st) σ τ z c n Q := by
  intro D cs z0 ar p l e R s m args below meth cd n0 a0 mc ms QF Cx ad H locs ls cells slots hA
  exact lv_tableOut Cx.1.1.1 Cx.1.1.2.1 hd h1 ht (k D cs z0 ar p l e R s m args below meth cd n0 a0 mc ms QF Cx ad H locs ls cells slots hA)
theorem k_lsw {x : Int32} {dflt : Int} {ps : Array (Int × Int)} {len : Nat} {off : Int} {st : List Value} (tgt : Nat) (hd : decode M.2.1 pc = .ok (.lookupswitch dflt ps, len)) (hp : (ps.toList.zip (ps.toList.drop 1)).all (fun (a, next) => a.1 < next.1) = true) (ho : Op.lookupswitch.offset ps.toList dflt x.toInt = off) (ht : (pc : Int) + off = (tgt : Int)) (k : kn_Go X M tgt lv st σ τ z c n Q) : kn_Go X M pc lv (.int x :: st) σ τ z c n Q := by
  intro D cs z0 ar p l e R s m args below meth cd n0 a0 mc ms QF Cx ad H locs ls cells slots hA
  exact lv_lookup Cx.1.1.1 Cx.1.1.2.1 hd hp ho ht (k D cs z0 ar p l e R s m args below meth cd n0 a0 mc ms QF Cx ad H locs ls cells slots hA)
theorem k_dup {v : Value} {st : List Value} (hd : decode M.2.1 pc = .ok (.dup, 1)) (hv : v.category = 1) (k : kn_Go X M (pc + 1) lv (v :: v :: st) σ τ z c n Q) : kn_Go X M pc lv (v :: st) σ τ z c n Q := by
  intro D cs z0 ar p l e R s m args below meth cd n0 a0 mc ms QF Cx ad H locs ls cells slots hA
  exact lv_dup Cx.1.1.1 Cx.1.1.2.1 hd (by rw [kn_cv_cat]; exact hv) (k D cs z0 ar p l e R s m args below meth cd n0 a0 mc ms QF Cx ad H locs ls cells slots hA)
theorem k_pop {v : Value} {st : List Value} (hd : decode M.2.1 pc = .ok (.pop, 1)) (hv : v.category = 1) (k : kn_Go X M (pc + 1) lv st σ τ z c n Q) : kn_Go X M pc lv (v :: st) σ τ z c n Q := by
  intro D cs z0 ar p l e R s m args below meth cd n0 a0 mc ms QF Cx ad H locs ls cells slots hA
  exact lv_pop Cx.1.1.1 Cx.1.1.2.1 hd (by rw [kn_cv_cat]; exact hv) (k D cs z0 ar p l e R s m args below meth cd n0 a0 mc ms QF Cx ad H locs ls cells slots hA)
theorem k_dup2 {v w : Value} {st : List Value} (hd : decode M.2.1 pc = .ok (.dup2, 1)) (hv : v.category = 1) (hw : w.category = 1) (k : kn_Go X M (pc + 1) lv (v :: w :: v :: w :: st) σ τ z c n Q) : kn_Go X M pc lv (v :: w :: st) σ τ z c n Q := by
  intro D cs z0 ar p l e R s m args below meth cd n0 a0 mc ms QF Cx ad H locs ls cells slots hA
  exact lv_dup2_11 Cx.1.1.1 Cx.1.1.2.1 hd (by rw [kn_cv_cat]; exact hv) (by rw [kn_cv_cat]; exact hw) (k D cs z0 ar p l e R s m args below meth cd n0 a0 mc ms QF Cx ad H locs ls cells slots hA)
end KNR
end
section
-- rows of the heap
/-- a class of the tables: its place, its fields -/
def kn_cf (ci : Nat) (C : String) (T : u_T) (N : Nat) (ty : Nat → FieldType) : Prop :=
  vwCl[ci]? = some (C, T, N) ∧ (∀ w ∈ u_ws C T N, w ∈ kn_ws) ∧ (∀ k, k < N → parseFieldDescriptor (T k).2.2.1 = some (ty k)) ∧ (∀ a, a < N → ∀ b, b < N → a ≠ b → (T a).2.1 ≠ (T b).2.1)
def kn_up (s : kn_S) (i k : Nat) (x : Int32) : kn_S := fun a b => if a = i ∧ b = k then x else s a b
def kn_upT (t : kn_T) (i k : Nat) (x : Int64) : kn_T := fun a b => if a = i ∧ b = k then x else t a b
theorem kn_up_row (s : kn_S) (i k : Nat) (x : Int32) : kn_up s i k x i = upd (s i) k x := by
  funext j
  simp [kn_up, upd]
theorem kn_up_ne (s : kn_S) {i j : Nat} (k : Nat) (x : Int32) (h : j ≠ i) : kn_up s i k x j = s j := by
  funext a
  simp [kn_up, h]
theorem kn_upT_row (s : kn_T) (i k : Nat) (x : Int64) : kn_upT s i k x i = vp_updL (s i) k x := by
  funext j
  simp [kn_upT, vp_updL]
theorem kn_upT_ne (s : kn_T) {i j : Nat} (k : Nat) (x : Int64) (h : j ≠ i) : kn_upT s i k x j = s j := by
  funext a
  simp [kn_upT, h]
theorem kn_fs_eq {ad : Nat → Nat} {s s' : kn_S} {t t' : kn_T} {j : Nat} (h1 : s' j = s j) (h2 : t' j = t j) (ds : List (Option Value)) : kn_fs ad s' t' j ds = kn_fs ad s t j ds := by
  refine List.ext_getElem? fun k => ?_
  simp only [kn_fs, List.getElem?_mapIdx]
  congr 1
  funext d
  cases d with
  | none => simp [kn_av, h1]
  | some v => cases v <;> simp [kn_av, h2]
theorem kn_ent_eq {cs : Nat → ClassId} {ad : Nat → Nat} {s s' : kn_S} {t t' : kn_T} {z : kn_Z} {j : Nat} (h1 : s' j = s j) (h2 : t' j = t j) : kn_ent cs ad s' t' z j = kn_ent cs ad s t z j := by
  unfold kn_ent
  rcases h : z.2 j with ⟨ci, ds⟩ | ⟨tg, n⟩ | l
  · simp only [kn_fs_eq h1 h2]
  · match tg with
    | 0 => simp only [h1]
    | 1 => simp only [h2]
    | _ + 2 => simp only [h2]
  · rfl
theorem kn_ent_ob {cs : Nat → ClassId} {ad : Nat → Nat} {s : kn_S} {t : kn_T} {z : kn_Z} {i ci : Nat} {ds : List (Option Value)} (hz : z.2 i = .inl (ci, ds)) : kn_ent cs ad s t z i = .inr (ci, kn_fs ad s t i ds) := by simp [kn_ent, hz]
theorem kn_ent_ia {cs : Nat → ClassId} {ad : Nat → Nat} {s : kn_S} {t : kn_T} {z : kn_Z} {i n : Nat} (hz : z.2 i = .inr (.inl (0, n))) : kn_ent cs ad s t z i = .inl (cs 0, n, .inl (s i)) := by simp [kn_ent, hz]
theorem kn_ent_la {cs : Nat → ClassId} {ad : Nat → Nat} {s : kn_S} {t : kn_T} {z : kn_Z} {i n : Nat} (hz : z.2 i = .inr (.inl (1, n))) : kn_ent cs ad s t z i = .inl (cs 2, n, .inr (.inl (t i))) := by simp [kn_ent, hz]
theorem kn_ent_da {cs : Nat → ClassId} {ad : Nat → Nat} {s : kn_S} {t : kn_T} {z : kn_Z} {i n : Nat} (hz : z.2 i = .inr (.inl (2, n))) : kn_ent cs ad s t z i = .inl (cs 3, n, .inr (.inr (.inr (.inl (fun j => (t i j).toUInt64))))) := by simp [kn_ent, hz]
theorem kn_ent_ra {cs : Nat → ClassId} {ad : Nat → Nat} {s : kn_S} {t : kn_T} {z : kn_Z} {i : Nat} {l : List Value} (hz : z.2 i = .inr (.inr l)) : kn_ent cs ad s t z i = .inl (cs 1, l.length, .inr (.inr (.inr (.inr (fun j => kn_rf ad (l.getD j .null)))))) := by simp [kn_ent, hz]
/-- what a cell's new contents make of the world -/
theorem kn_Wd.put {D : va_G} {cs : Nat → ClassId} {z0 : Nat} {ad : Nat → Nat} {s s' : kn_S} {t t' : kn_T} {z : kn_Z} {H1 : Heap} {i : Nat} {e : va_E} (hv : kn_vz z) (he : kn_ent cs ad s' t' z i = e) (h1 : ∀ j, j ≠ i → s' j = s j) (h2 : ∀ j, j ≠ i → t' j = t j)
    (hP : va_P D vwCl ((kn_wl cs ad s t z).set i (ad i, e)) H1) (hD : va_D (kn_A z0) ((kn_wl cs ad s t z).set i (ad i, e))) : kn_Wd D cs z0 ad s' t' z H1 := by
  rw [kn_wl_set (z' := z) rfl he (fun j _ hj => kn_ent_eq (h1 j hj) (h2 j hj))] at hP hD
  exact ⟨hP, hD, hv⟩
theorem kn_fs_set {ad : Nat → Nat} {s s' : kn_S} {t t' : kn_T} {i k : Nat} {v : Value} {ds ds' : List (Option Value)} (hl : ds'.length = ds.length) (hk : (kn_fs ad s' t' i ds')[k]? = if k < ds.length then some v else none) (ho : ∀ j, j ≠ k → (kn_fs ad s' t' i ds')[j]? = (kn_fs ad s t i ds)[j]?) : kn_fs ad s' t' i ds' = (kn_fs ad s t i ds).set k v := by
  refine List.ext_getElem? fun j => ?_
  by_cases hj : j = k
  · subst hj
    rw [hk, List.getElem?_set, if_pos rfl, kn_fs_len]
  · rw [ho j hj, List.getElem?_set_ne (Ne.symm hj)]
theorem kn_fs_at {ad : Nat → Nat} {s s' : kn_S} {t t' : kn_T} {i j : Nat} (h1 : s' i j = s i j) (h2 : t' i j = t i j) (ds : List (Option Value)) : (kn_fs ad s' t' i ds)[j]? = (kn_fs ad s t i ds)[j]? := by
  simp only [kn_fs, List.getElem?_mapIdx]
  cases ds[j]? with
  | none => rfl
  | some d =>
    cases d with
    | none => simp [kn_av, h1]
    | some v => cases v <;> simp [kn_av, h2]
section KNH
variable {X : kn_X} {M : kn_M} {pc : Nat} {lv : kn_L} {σ : kn_S} {τ : kn_T} {z : kn_Z} {c n : Nat} {Q : kn_Q} {ci i k N idx : Nat} {C : String} {T : u_T} {ty : Nat → FieldType} {ds : List (Option Value)} {st : List Value} {d : Option Value}
theorem k_getfield (hd : decode M.2.1 pc = .ok (.getfield idx, 3)) (hc : kn_cf ci C T N ty) (hi : i < z.1) (hz : z.2 i = .inl (ci, ds)) (k : Nat) (hk : k < N) (hL : Cond.fieldLink M.1.cls idx (T k).1 (T k).2.1 (T k).2.2.1 ∈ kn_ws) (hdk : ds[k]? = some d)
    (kk : kn_Go X M (pc + 3) lv (kn_av σ τ i k d :: st) σ τ z c n Q) : kn_Go X M pc lv (.ref i :: st) σ τ z c n Q := by
  intro D cs z0 ar p l e R s m args below meth cd n0 a0 mc ms QF Cx ad H locs ls cells slots hA
  have hcv : kn_cv ad ar (kn_av σ τ i k d) = kn_cv ad ad (kn_av σ τ i k d) := by
    cases d with
    | none => rfl
    | some v => cases v <;> rfl
  have h := kk D cs z0 ar p l e R s m args below meth cd n0 a0 mc ms QF Cx ad H locs ls cells slots hA
  rw [List.map_cons, hcv] at h
  exact va_get Cx.1.1.1 Cx.1.1.2.1 Cx.1.1.2.2.2.2 hc.2.1 Cx.1.1.2.2.2.1 Cx.1.2.2.2.1 hA.2.2.1.1 i (by rw [kn_wl_get hi, kn_ent_ob hz]) hc.1 k hk (Cx.1.1.2.2.2.2 _ hL) (fun _ h9 => h9) (kn_fs_get hdk) hd h
theorem k_getfieldN {host : String} (hd : decode M.2.1 pc = .ok (.getfield idx, 3)) (hc : kn_cf ci C T N ty) (hi : i < z.1) (hz : z.2 i = .inl (ci, ds)) (k : Nat) (hk : k < N) (hL : Cond.fieldLinkNest M.1.cls idx (T k).1 (T k).2.1 (T k).2.2.1 host ∈ kn_bad) (hdk : ds[k]? = some d)
    (kk : kn_Go X M (pc + 3) lv (kn_av σ τ i k d :: st) σ τ z c n Q) : kn_Go X M pc lv (.ref i :: st) σ τ z c n Q := by
  intro D cs z0 ar p l e R s m args below meth cd n0 a0 mc ms QF Cx ad H locs ls cells slots hA
  have hcv : kn_cv ad ar (kn_av σ τ i k d) = kn_cv ad ad (kn_av σ τ i k d) := by
    cases d with
    | none => rfl
    | some v => cases v <;> rfl
  have h := kk D cs z0 ar p l e R s m args below meth cd n0 a0 mc ms QF Cx ad H locs ls cells slots hA
  rw [List.map_cons, hcv] at h
  exact va_getN Cx.1.1.1 Cx.1.1.2.1 Cx.1.1.2.2.2.2 hc.2.1 Cx.1.1.2.2.2.1 Cx.1.2.2.2.1 hA.2.2.1.1 i (by rw [kn_wl_get hi, kn_ent_ob hz]) hc.1 k hk (kn_bad_use (List.mem_filter.mp hL).2 (Cx.1.2.2.2.2.2.2.2.2.1 _ hL)) (fun _ h9 => h9) (kn_fs_get hdk) hd h
theorem kn_putI {D : va_G} {cs : Nat → ClassId} {z0 : Nat} {ad : Nat → Nat} {H1 : Heap} {x : Int32} (hz : z.2 i = .inl (ci, ds)) (hdk : ds[k]? = some none) (hv : kn_vz z)
    (hP : va_P D vwCl ((kn_wl cs ad σ τ z).set i (ad i, .inr (ci, (kn_fs ad σ τ i ds).set k (.int x)))) H1) (hD : va_D (kn_A z0) ((kn_wl cs ad σ τ z).set i (ad i, .inr (ci, (kn_fs ad σ τ i ds).set k (.int x))))) : kn_Wd D cs z0 ad (kn_up σ i k x) τ z H1 := by
  refine kn_Wd.put hv ?_ (fun j hj => kn_up_ne σ k x hj) (fun _ _ => rfl) hP hD
  rw [kn_ent_ob hz]
  congr 2
  have hkl : k < ds.length := (List.getElem?_eq_some_iff.mp hdk).1
  refine kn_fs_set rfl ?_ (fun j hj => kn_fs_at (by simp [kn_up, hj]) rfl ds)
  rw [kn_fs_get hdk, if_pos hkl]
  simp [kn_av, kn_up, kn_cv]
theorem k_putfield {x : Int32} {t9 : FieldType} (hd : decode M.2.1 pc = .ok (.putfield idx, 3)) (hc : kn_cf ci C T N ty) (hi : i < z.1) (hz : z.2 i = .inl (ci, ds)) (k : Nat) (hk : k < N) (hL : Cond.fieldLink M.1.cls idx (T k).1 (T k).2.1 (T k).2.2.1 ∈ kn_ws) (hdk : ds[k]? = some none) (hfin : (T k).2.2.2 = false) (ht : parseFieldDescriptor (T k).2.2.1 = some t9) (hn : narrow t9 (.int x) = .int x) (hf : fits t9 (.int x) = true)
    (kk : kn_Go X M (pc + 3) lv st (kn_up σ i k x) τ z c n Q) : kn_Go X M pc lv (.int x :: .ref i :: st) σ τ z c n Q := by
  intro D cs z0 ar p l e R s m args below meth cd n0 a0 mc ms QF Cx ad H locs ls cells slots hA
  refine va_put Cx.1.1.1 Cx.1.1.2.1 Cx.1.1.2.2.2.2 hc.2.1 ty hc.2.2.1 hc.2.2.2 Cx.1.1.2.2.2.1 Cx.1.2.2.2.1 hA.2.2.1.1 hA.2.2.1.2.1 hA.2.2.2.1 i (by rw [kn_wl_get hi, kn_ent_ob hz]) hc.1 k hk (Cx.1.1.2.2.2.2 _ hL) (fun _ h9 => h9) hfin ht hn hf (by rw [kn_fs_len]; exact (List.getElem?_eq_some_iff.mp hdk).1) hd (fun H1 locs1 hP hD hS => ?_)
  exact kk D cs z0 ar p l e R s m args below meth cd n0 a0 mc ms QF Cx ad H1 locs1 ls cells slots ⟨hA.1, hA.2.1, kn_putI hz hdk hA.2.2.1.2.2 hP hD, hS, hA.2.2.2.2⟩
theorem k_putfieldN {host : String} {x : Int32} {t9 : FieldType} (hd : decode M.2.1 pc = .ok (.putfield idx, 3)) (hc : kn_cf ci C T N ty) (hi : i < z.1) (hz : z.2 i = .inl (ci, ds)) (k : Nat) (hk : k < N) (hL : Cond.fieldLinkNest M.1.cls idx (T k).1 (T k).2.1 (T k).2.2.1 host ∈ kn_bad) (hdk : ds[k]? = some none) (hfin : (T k).2.2.2 = false) (ht : parseFieldDescriptor (T k).2.2.1 = some t9) (hn : narrow t9 (.int x) = .int x) (hf : fits t9 (.int x) = true)
    (kk : kn_Go X M (pc + 3) lv st (kn_up σ i k x) τ z c n Q) : kn_Go X M pc lv (.int x :: .ref i :: st) σ τ z c n Q := by
  intro D cs z0 ar p l e R s m args below meth cd n0 a0 mc ms QF Cx ad H locs ls cells slots hA
  refine va_putN Cx.1.1.1 Cx.1.1.2.1 Cx.1.1.2.2.2.2 hc.2.1 ty hc.2.2.1 hc.2.2.2 Cx.1.1.2.2.2.1 Cx.1.2.2.2.1 hA.2.2.1.1 hA.2.2.1.2.1 hA.2.2.2.1 i (by rw [kn_wl_get hi, kn_ent_ob hz]) hc.1 k hk (kn_bad_use (List.mem_filter.mp hL).2 (Cx.1.2.2.2.2.2.2.2.2.1 _ hL)) (fun _ h9 => h9) hfin ht hn hf (by rw [kn_fs_len]; exact (List.getElem?_eq_some_iff.mp hdk).1) hd (fun H1 locs1 hP hD hS => ?_)
  exact kk D cs z0 ar p l e R s m args below meth cd n0 a0 mc ms QF Cx ad H1 locs1 ls cells slots ⟨hA.1, hA.2.1, kn_putI hz hdk hA.2.2.1.2.2 hP hD, hS, hA.2.2.2.2⟩
theorem k_putfieldJ {x : Int64} (hd : decode M.2.1 pc = .ok (.putfield idx, 3)) (hc : kn_cf ci C T N ty) (hi : i < z.1) (hz : z.2 i = .inl (ci, ds)) (k : Nat) (hk : k < N) (hL : Cond.fieldLink M.1.cls idx (T k).1 (T k).2.1 (T k).2.2.1 ∈ kn_ws) (hdk : ds[k]? = some (some (.long 0))) (hfin : (T k).2.2.2 = false) (ht : parseFieldDescriptor (T k).2.2.1 = some .long)
    (kk : kn_Go X M (pc + 3) lv st σ (kn_upT τ i k x) z c n Q) : kn_Go X M pc lv (.long x :: .ref i :: st) σ τ z c n Q := by
  intro D cs z0 ar p l e R s m args below meth cd n0 a0 mc ms QF Cx ad H locs ls cells slots hA
  refine va_put Cx.1.1.1 Cx.1.1.2.1 Cx.1.1.2.2.2.2 hc.2.1 ty hc.2.2.1 hc.2.2.2 Cx.1.1.2.2.2.1 Cx.1.2.2.2.1 hA.2.2.1.1 hA.2.2.1.2.1 hA.2.2.2.1 i (by rw [kn_wl_get hi, kn_ent_ob hz]) hc.1 k hk (Cx.1.1.2.2.2.2 _ hL) (fun _ h9 => h9) hfin ht rfl rfl (by rw [kn_fs_len]; exact (List.getElem?_eq_some_iff.mp hdk).1) hd (fun H1 locs1 hP hD hS => ?_)
  refine kk D cs z0 ar p l e R s m args below meth cd n0 a0 mc ms QF Cx ad H1 locs1 ls cells slots ⟨hA.1, hA.2.1, kn_Wd.put hA.2.2.1.2.2 ?_ (fun _ _ => rfl) (fun j hj => kn_upT_ne τ k x hj) hP hD, hS, hA.2.2.2.2⟩
  rw [kn_ent_ob hz]
  congr 2
  have hkl : k < ds.length := (List.getElem?_eq_some_iff.mp hdk).1
  refine kn_fs_set rfl ?_ (fun j hj => kn_fs_at rfl (by simp [kn_upT, hj]) ds)
  rw [kn_fs_get hdk, if_pos hkl]
  simp [kn_av, kn_upT, kn_cv]
theorem k_iaload {x : Int32} {len : Nat} (hd : decode M.2.1 pc = .ok (.iaload, 1)) (hi : i < z.1) (hz : z.2 i = .inr (.inl (0, len))) (hin : vp_in x len)
    (kk : kn_Go X M (pc + 1) lv (.int (σ i x.toNatClampNeg) :: st) σ τ z c n Q) : kn_Go X M pc lv (.int x :: .ref i :: st) σ τ z c n Q := by
  intro D cs z0 ar p l e R s m args below meth cd n0 a0 mc ms QF Cx ad H locs ls cells slots hA
  exact va_iald Cx.1.1.1 Cx.1.1.2.1 Cx.1.2.2.2.1 hA.2.2.1.1 i 0 (by rw [kn_wl_get hi, kn_ent_ia hz]) rfl hin hd (kk D cs z0 ar p l e R s m args below meth cd n0 a0 mc ms QF Cx ad H locs ls cells slots hA)
theorem k_iastore {x v : Int32} {len : Nat} (hd : decode M.2.1 pc = .ok (.iastore, 1)) (hi : i < z.1) (hz : z.2 i = .inr (.inl (0, len))) (hin : vp_in x len)
    (kk : kn_Go X M (pc + 1) lv st (kn_up σ i x.toNatClampNeg v) τ z c n Q) : kn_Go X M pc lv (.int v :: .int x :: .ref i :: st) σ τ z c n Q := by
  intro D cs z0 ar p l e R s m args below meth cd n0 a0 mc ms QF Cx ad H locs ls cells slots hA
  refine va_iast Cx.1.1.1 Cx.1.1.2.1 Cx.1.2.2.2.1 hA.2.2.1.1 hA.2.2.1.2.1 hA.2.2.2.1 i 0 (by rw [kn_wl_get hi, kn_ent_ia hz]) rfl hin hd (fun H1 locs1 hP hD hS => ?_)
  refine kk D cs z0 ar p l e R s m args below meth cd n0 a0 mc ms QF Cx ad H1 locs1 ls cells slots ⟨hA.1, hA.2.1, kn_Wd.put hA.2.2.1.2.2 ?_ (fun j hj => kn_up_ne σ _ v hj) (fun _ _ => rfl) hP hD, hS, hA.2.2.2.2⟩
  rw [kn_ent_ia hz, kn_up_row]
theorem k_laload {x : Int32} {len : Nat} (hd : decode M.2.1 pc = .ok (.laload, 1)) (hi : i < z.1) (hz : z.2 i = .inr (.inl (1, len))) (hin : vp_in x len)
    (kk : kn_Go X M (pc + 1) lv (.long (τ i x.toNatClampNeg) :: st) σ τ z c n Q) : kn_Go X M pc lv (.int x :: .ref i :: st) σ τ z c n Q := by
  intro D cs z0 ar p l e R s m args below meth cd n0 a0 mc ms QF Cx ad H locs ls cells slots hA
  exact va_lald Cx.1.1.1 Cx.1.1.2.1 Cx.1.2.2.2.1 hA.2.2.1.1 i 2 (by rw [kn_wl_get hi, kn_ent_la hz]) rfl hin hd (kk D cs z0 ar p l e R s m args below meth cd n0 a0 mc ms QF Cx ad H locs ls cells slots hA)
theorem k_lastore {x : Int32} {v : Int64} {len : Nat} (hd : decode M.2.1 pc = .ok (.lastore, 1)) (hi : i < z.1) (hz : z.2 i = .inr (.inl (1, len))) (hin : vp_in x len)
    (kk : kn_Go X M (pc + 1) lv st σ (kn_upT τ i x.toNatClampNeg v) z c n Q) : kn_Go X M pc lv (.long v :: .int x :: .ref i :: st) σ τ z c n Q := by
  intro D cs z0 ar p l e R s m args below meth cd n0 a0 mc ms QF Cx ad H locs ls cells slots hA
  refine va_last Cx.1.1.1 Cx.1.1.2.1 Cx.1.2.2.2.1 hA.2.2.1.1 hA.2.2.1.2.1 hA.2.2.2.1 i 2 (by rw [kn_wl_get hi, kn_ent_la hz]) rfl hin hd (fun H1 locs1 hP hD hS => ?_)
  refine kk D cs z0 ar p l e R s m args below meth cd n0 a0 mc ms QF Cx ad H1 locs1 ls cells slots ⟨hA.1, hA.2.1, kn_Wd.put hA.2.2.1.2.2 ?_ (fun _ _ => rfl) (fun j hj => kn_upT_ne τ _ v hj) hP hD, hS, hA.2.2.2.2⟩
  rw [kn_ent_la hz, kn_upT_row]
theorem k_daload {x : Int32} {len : Nat} (hd : decode M.2.1 pc = .ok (.daload, 1)) (hi : i < z.1) (hz : z.2 i = .inr (.inl (2, len))) (hin : vp_in x len)
    (kk : kn_Go X M (pc + 1) lv (.double (τ i x.toNatClampNeg).toUInt64 :: st) σ τ z c n Q) : kn_Go X M pc lv (.int x :: .ref i :: st) σ τ z c n Q := by
  intro D cs z0 ar p l e R s m args below meth cd n0 a0 mc ms QF Cx ad H locs ls cells slots hA
  exact va_dald (f := fun j => (τ i j).toUInt64) Cx.1.1.1 Cx.1.1.2.1 Cx.1.2.2.2.1 hA.2.2.1.1 i 3 (by rw [kn_wl_get hi, kn_ent_da hz]) rfl hin hd (kk D cs z0 ar p l e R s m args below meth cd n0 a0 mc ms QF Cx ad H locs ls cells slots hA)
theorem k_dastore {x : Int32} {v : UInt64} {len : Nat} (hd : decode M.2.1 pc = .ok (.dastore, 1)) (hi : i < z.1) (hz : z.2 i = .inr (.inl (2, len))) (hin : vp_in x len)
    (kk : kn_Go X M (pc + 1) lv st σ (kn_upT τ i x.toNatClampNeg v.toInt64) z c n Q) : kn_Go X M pc lv (.double v :: .int x :: .ref i :: st) σ τ z c n Q := by
  intro D cs z0 ar p l e R s m args below meth cd n0 a0 mc ms QF Cx ad H locs ls cells slots hA
  refine va_dast Cx.1.1.1 Cx.1.1.2.1 Cx.1.2.2.2.1 hA.2.2.1.1 hA.2.2.1.2.1 hA.2.2.2.1 i 3 (by rw [kn_wl_get hi, kn_ent_da hz]) rfl hin hd (fun H1 locs1 hP hD hS => ?_)
  refine kk D cs z0 ar p l e R s m args below meth cd n0 a0 mc ms QF Cx ad H1 locs1 ls cells slots ⟨hA.1, hA.2.1, kn_Wd.put hA.2.2.1.2.2 ?_ (fun _ _ => rfl) (fun j hj => kn_upT_ne τ _ v.toInt64 hj) hP hD, hS, hA.2.2.2.2⟩
  rw [kn_ent_da hz, kn_upT_row]
  have e9 : (fun j => (vp_updL (τ i) x.toNatClampNeg v.toInt64 j).toUInt64) = vf_upd (fun j => (τ i j).toUInt64) x.toNatClampNeg v := by
    funext j
    simp only [vp_updL, vf_upd]
    split <;> simp
  rw [e9]
theorem k_aaload {x : Int32} {l9 : List Value} (r : Nat) (hd : decode M.2.1 pc = .ok (.aaload, 1)) (hi : i < z.1) (hz : z.2 i = .inr (.inr l9)) (hin : vp_in x l9.length) (hr : l9.getD x.toNatClampNeg .null = .ref r)
    (kk : kn_Go X M (pc + 1) lv (.ref r :: st) σ τ z c n Q) : kn_Go X M pc lv (.int x :: .ref i :: st) σ τ z c n Q := by
  intro D cs z0 ar p l e R s m args below meth cd n0 a0 mc ms QF Cx ad H locs ls cells slots hA
  refine va_aldq Cx.1.1.1 Cx.1.1.2.1 Cx.1.2.2.2.1 hA.2.2.1.1 i 1 (by rw [kn_wl_get hi, kn_ent_ra hz]) rfl hin hd ?_
  rw [hr]
  exact kk D cs z0 ar p l e R s m args below meth cd n0 a0 mc ms QF Cx ad H locs ls cells slots hA
theorem k_alenI {len : Nat} (hd : decode M.2.1 pc = .ok (.arraylength, 1)) (hi : i < z.1) (hz : z.2 i = .inr (.inl (0, len)))
    (kk : kn_Go X M (pc + 1) lv (.int (nI len) :: st) σ τ z c n Q) : kn_Go X M pc lv (.ref i :: st) σ τ z c n Q := by
  intro D cs z0 ar p l e R s m args below meth cd n0 a0 mc ms QF Cx ad H locs ls cells slots hA
  exact va_alen Cx.1.1.1 Cx.1.1.2.1 Cx.1.2.2.2.1 hA.2.2.1.1 i 0 (x := (len, .inl (σ i))) (v := nI len) (by rw [kn_wl_get hi, kn_ent_ia hz]) rfl rfl hd (kk D cs z0 ar p l e R s m args below meth cd n0 a0 mc ms QF Cx ad H locs ls cells slots hA)
theorem k_alenR {l9 : List Value} (hd : decode M.2.1 pc = .ok (.arraylength, 1)) (hi : i < z.1) (hz : z.2 i = .inr (.inr l9))
    (kk : kn_Go X M (pc + 1) lv (.int (nI l9.length) :: st) σ τ z c n Q) : kn_Go X M pc lv (.ref i :: st) σ τ z c n Q := by
  intro D cs z0 ar p l e R s m args below meth cd n0 a0 mc ms QF Cx ad H locs ls cells slots hA
  exact va_alen Cx.1.1.1 Cx.1.1.2.1 Cx.1.2.2.2.1 hA.2.2.1.1 i 1 (x := (l9.length, .inr (.inr (.inr (.inr (fun j => kn_rf ad (l9.getD j .null))))))) (v := nI l9.length) (by rw [kn_wl_get hi, kn_ent_ra hz]) rfl rfl hd (kk D cs z0 ar p l e R s m args below meth cd n0 a0 mc ms QF Cx ad H locs ls cells slots hA)
theorem k_roload {x : Int32} {r : Nat} (hd : decode M.2.1 pc = .ok (.iaload, 1)) (hr : r < 4) (hin : vp_in x (kn_rl X r))
    (kk : kn_Go X M (pc + 1) lv (.int (kn_rv X r x.toNatClampNeg) :: st) σ τ z c n Q) : kn_Go X M pc lv (.int x :: .retAddr r :: st) σ τ z c n Q := by
  intro D cs z0 ar p l e R s m args below meth cd n0 a0 mc ms QF Cx ad H locs ls cells slots hA
  exact va_ti Cx.1.1.1 Cx.1.1.2.1 (Cx.1.2.2.2.2.1 r hr) hA.2.2.2.1 hin rfl hd (kk D cs z0 ar p l e R s m args below meth cd n0 a0 mc ms QF Cx ad H locs ls cells slots hA)
theorem k_rolen {r : Nat} (hd : decode M.2.1 pc = .ok (.arraylength, 1)) (hr : r < 4)
    (kk : kn_Go X M (pc + 1) lv (.int (nI (kn_rl X r)) :: st) σ τ z c n Q) : kn_Go X M pc lv (.retAddr r :: st) σ τ z c n Q := by
  intro D cs z0 ar p l e R s m args below meth cd n0 a0 mc ms QF Cx ad H locs ls cells slots hA
  exact va_tlen Cx.1.1.1 Cx.1.1.2.1 (Cx.1.2.2.2.2.1 r hr) hA.2.2.2.1 rfl hd (kk D cs z0 ar p l e R s m args below meth cd n0 a0 mc ms QF Cx ad H locs ls cells slots hA)
theorem k_getstatic {r : Nat} (hd : decode M.2.1 pc = .ok (.getstatic idx, 3)) (hr : (r = 1 ∧ Cond.fieldLink M.1.cls idx "KnockControl" "LEAST_SETTING" "[I" ∈ kn_ws) ∨ (r = 2 ∧ Cond.fieldLink M.1.cls idx "KnockControl" "FIRST_SETTING" "[I" ∈ kn_ws) ∨ (r = 3 ∧ Cond.fieldLink M.1.cls idx "KnockControl" "MOST_SETTING" "[I" ∈ kn_ws))
    (kk : kn_Go X M (pc + 3) lv (.retAddr r :: st) σ τ z c n Q) : kn_Go X M pc lv st σ τ z c n Q := by
  intro D cs z0 ar p l e R s m args below meth cd n0 a0 mc ms QF Cx ad H locs ls cells slots hA
  have h := kk D cs z0 ar p l e R s m args below meth cd n0 a0 mc ms QF Cx ad H locs ls cells slots hA
  obtain ⟨h1, h2, h3⟩ := Cx.1.2.2.2.2.2.1
  rcases hr with ⟨rfl, hL⟩ | ⟨rfl, hL⟩ | ⟨rfl, hL⟩
  · exact va_gets Cx.1.1.1 Cx.1.1.2.1 h1 hA.2.2.2.1 Cx.1.1.2.2.2.1 (Cx.1.1.2.2.2.2 _ hL) (fun _ h9 => h9) hd h
  · exact va_gets Cx.1.1.1 Cx.1.1.2.1 h2 hA.2.2.2.1 Cx.1.1.2.2.2.1 (Cx.1.1.2.2.2.2 _ hL) (fun _ h9 => h9) hd h
  · exact va_gets Cx.1.1.1 Cx.1.1.2.1 h3 hA.2.2.2.1 Cx.1.1.2.2.2.1 (Cx.1.1.2.2.2.2 _ hL) (fun _ h9 => h9) hd h
end KNH
end
section
-- rows of the calls
def kn_ok0 (M2 : kn_M) (k : Nat) : Prop := M2.1.cls ≠ "java/lang/invoke/MethodHandle" ∧ M2.1.cls ≠ "java/lang/invoke/VarHandle" ∧ (parseMethodDescriptor M2.1.desc).map (fun d => d.parameters.length) = some k
/-- what a call of an instance method needs of the tables; ci: its class's place -/
def kn_mV (M2 : kn_M) (k ci : Nat) : Prop := M2.2.2.2.2.1 = [] ∧ kn_w M2 ∈ kn_ws ∧ (Cond.instanceMethod M2.1 ∈ kn_ws ∧ Cond.selects M2.1.cls M2.1 M2.1 ∈ kn_ws ∧ Cond.initialized M2.1.cls ∈ kn_ws) ∧ kn_ok0 M2 k ∧ ∃ T N, vwCl[ci]? = some (M2.1.cls, T, N)
def kn_mS (M2 : kn_M) (k : Nat) : Prop := M2.2.2.2.2.1 = [] ∧ kn_w M2 ∈ kn_ws ∧ (Cond.static M2.1 ∈ kn_ws ∧ Cond.initialized M2.1.cls ∈ kn_ws) ∧ kn_ok0 M2 k
def kn_mSH (M2 : kn_M) (k : Nat) : Prop := M2.2.2.2.2.1 ≠ [] ∧ kn_w M2 ∈ kn_ws ∧ (Cond.static M2.1 ∈ kn_ws ∧ Cond.initialized M2.1.cls ∈ kn_ws) ∧ kn_ok0 M2 k
def kn_mI (M2 : kn_M) (k : Nat) : Prop := M2.2.2.2.2.1 = [] ∧ kn_w M2 ∈ kn_ws ∧ (Cond.instanceMethod M2.1 ∈ kn_ws ∧ Cond.initialized M2.1.cls ∈ kn_ws ∧ M2.1.name = "<init>" ∧ M2.2.2.2.1 = none) ∧ kn_ok0 M2 k
theorem kn_w0 {M2 : kn_M} (h : M2.2.2.2.2.1 = []) : kn_w M2 :: kn_ws = Cond.code M2.1 M2.2.1 M2.2.2.1 M2.2.2.2.1 :: kn_ws := by rw [kn_w, h]
theorem kn_wH {M2 : kn_M} (h : M2.2.2.2.2.1 ≠ []) : kn_w M2 :: kn_ws = Cond.codeWith M2.1 M2.2.1 M2.2.2.1 M2.2.2.2.1 M2.2.2.2.2.1 :: kn_ws := by
  unfold kn_w
  split
  · rename_i h9
    exact absurd h9 h
  · rfl
def kn_fit (M M2 : kn_M) : Prop := M2.2.2.2.2.2.1 + 1 ≤ M.2.2.2.2.2.1 ∧ 8 + (M2.2.2.1 + 11) + M2.2.2.2.2.2.2 ≤ M.2.2.2.2.2.2
section KNV
variable {X : kn_X} {M : kn_M} {pc : Nat} {lv : kn_L} {σ : kn_S} {τ : kn_T} {z : kn_Z} {c n : Nat} {Q : kn_Q} {ci i k idx c1 n1 : Nat} {ds : List (Option Value)} {As rest st : List Value}
theorem kn_stk {ad ar : Nat → Nat} {As rest st : List Value} {i : Nat} (h : st = As.reverse ++ .ref i :: rest) : st.map (kn_cv ad ar) = (As.map (kn_cv ad ar)).reverse ++ .ref (ad i) :: rest.map (kn_cv ad ar) := by
  rw [h, List.map_append, List.map_reverse]
  rfl
theorem kn_stkS {ad ar : Nat → Nat} {As rest st : List Value} (h : st = As.reverse ++ rest) : st.map (kn_cv ad ar) = (As.map (kn_cv ad ar)).reverse ++ rest.map (kn_cv ad ar) := by
  rw [h, List.map_append, List.map_reverse]
theorem kn_hk {c1 n1 : Nat} {ad ar : Nat → Nat} : ∀ (ad' : Nat → Nat) (o : kn_O) (σ' : kn_S) (τ' : kn_T) (z' : kn_Z), kn_K X M pc lv rest z.1 (c - c1) (n - n1) Q o σ' τ' z' → kn_Ad z.1 ad z' ad' → kn_KN X M pc lv rest (c - c1) (n - n1) Q o σ' τ' z' ∧ rest.map (kn_cv ad' ar) = rest.map (kn_cv ad ar) ∧ kn_lc ad' ar lv = kn_lc ad ar lv := by
  intro ad' o σ' τ' z' h hA
  obtain ⟨h1, h2⟩ := h
  have h3 := hA.2.2 h1
  subst h3
  exact ⟨h2, rfl, rfl⟩
theorem kn_hkN {c1 n1 : Nat} {ad ar : Nat → Nat} (v1 : kn_vok z.1 rest) (v2 : kn_vok z.1 (lv.map (fun q => q.2))) : ∀ (ad' : Nat → Nat) (o : kn_O) (σ' : kn_S) (τ' : kn_T) (z' : kn_Z), kn_KN X M pc lv rest (c - c1) (n - n1) Q o σ' τ' z' → kn_Ad z.1 ad z' ad' → kn_KN X M pc lv rest (c - c1) (n - n1) Q o σ' τ' z' ∧ rest.map (kn_cv ad' ar) = rest.map (kn_cv ad ar) ∧ kn_lc ad' ar lv = kn_lc ad ar lv := by
  intro ad' o σ' τ' z' h hA
  exact ⟨h, kn_vok_map v1 hA.2.1, kn_vok_lc v2 hA.2.1⟩
theorem kn_pre {D : va_G} {cs : Nat → ClassId} {z0 : Nat} {ar ad : Nat → Nat} {p : Program} {l : Launch} {R : Room} {s : State} {m : MethodId} {args : Array Value} {meth : Method} {cd : Code} (C : kn_C X M D cs z0 ar p l R s m args meth cd) {H : Heap} {locs : List Loc} (hW : kn_Wd D cs z0 ad σ τ z H) (hS : va_S (kn_A z0) s.heap H locs) (vs : List Value) {U : State} (hU : U.heap = H) (hw : s.WarmedH U.vm) :
    kn_Pc X D cs z0 ar ad vs σ τ z (vs.map (kn_cv ad ar)).toArray U :=
  ⟨rfl, by rw [hU]; exact hW, va_K.moved hw.alike C.2.2.2.1, by rw [hU]; exact (C.2.2.2.2.kept hS).moved hw⟩
theorem k_invV {M2 : kn_M} (hd : decode M.2.1 pc = .ok (.invokevirtual idx, 3)) (hm : kn_mV M2 k ci) (hL : Cond.methodLink M.1.cls idx M2.1 ∈ kn_ws) (hf : kn_fit M M2) (hi : i < z.1) (hz : z.2 i = .inl (ci, ds)) (hst : st = As.reverse ++ .ref i :: rest) (hn : As.length = k) (hrs : (rest.map fun v => v.category).sum ≤ 8) (h1 : c1 ≤ c) (h2 : n1 ≤ n)
    (hE : kn_Ev X M2 (.ref i :: As) σ τ z c1 n1 (kn_K X M pc lv rest z.1 (c - c1) (n - n1) Q)) : kn_Go X M pc lv st σ τ z c n Q := by
  intro D cs z0 ar p l e R s m args below meth cd n0 a0 mc ms QF Cx ad H locs ls cells slots hA
  obtain ⟨g1, g2, ⟨g3, g4, g5⟩, g6, T, N, g7⟩ := hm
  refine kn_after Cx hA h1 h2 kn_hk (vx_runV (As := As.map (kn_cv ad ar)) (rest := rest.map (kn_cv ad ar)) Cx.1.1 (hE l D cs z0 ar ad Cx.1.2.1.1)
    (cwV (C := M2.1.cls) k Cx.1.1.2.2.2.2 (kn_goods (fun w hw => ?_) g2) (kn_w0 g1) rfl rfl ⟨rfl, g6⟩ ⟨Nat.le_trans hf.1 Cx.1.2.2.1.1, Nat.le_trans hf.2 Cx.1.2.2.1.2⟩)
    ⟨kn_blind, va_recv Cx.1.2.2.2.1 hA.2.2.1.1 g7 (by rw [kn_wl_get hi, kn_ent_ob hz]), fun U hU hW => kn_pre Cx.1 hA.2.2.1 hA.2.2.2.1 (.ref i :: As) hU hW⟩
    rfl (by rw [List.length_map]; exact hn) hA.2.2.2.2.1 (kn_stk hst) (lv_room (by rw [kn_cats]; exact hrs)) hd ⟨?_, ?_⟩)
  · simp only [List.mem_cons, List.not_mem_nil, or_false] at hw
    rcases hw with rfl | rfl | rfl | rfl
    · exact hL
    · exact g3
    · exact g4
    · exact g5
  · have := hA.2.1.1; have := Cx.2.2.1; omega
  · have := hA.2.1.2; have := Cx.2.2.2; omega
theorem k_invS {M2 : kn_M} (hd : decode M.2.1 pc = .ok (.invokestatic idx, 3)) (hm : kn_mS M2 k) (hL : Cond.methodLink M.1.cls idx M2.1 ∈ kn_ws) (hf : kn_fit M M2) (hst : st = As.reverse ++ rest) (hn : As.length = k) (hrs : (rest.map fun v => v.category).sum ≤ 8) (h1 : c1 ≤ c) (h2 : n1 ≤ n)
    (hE : kn_Ev X M2 As σ τ z c1 n1 (kn_K X M pc lv rest z.1 (c - c1) (n - n1) Q)) : kn_Go X M pc lv st σ τ z c n Q := by
  intro D cs z0 ar p l e R s m args below meth cd n0 a0 mc ms QF Cx ad H locs ls cells slots hA
  obtain ⟨g1, g2, ⟨g3, g4⟩, g6⟩ := hm
  refine kn_after Cx hA h1 h2 kn_hk (vx_runS (As := As.map (kn_cv ad ar)) (rest := rest.map (kn_cv ad ar)) Cx.1.1 (hE l D cs z0 ar ad Cx.1.2.1.1)
    (va_cwS k Cx.1.1.2.2.2.2 (kn_goods (fun w hw => ?_) g2) (kn_w0 g1) rfl rfl g6 ⟨Nat.le_trans hf.1 Cx.1.2.2.1.1, Nat.le_trans hf.2 Cx.1.2.2.1.2⟩)
    ⟨kn_blind, fun U hU hW => kn_pre Cx.1 hA.2.2.1 hA.2.2.2.1 As hU hW⟩
    rfl (by rw [List.length_map]; exact hn) hA.2.2.2.2.1 (kn_stkS hst) (lv_room (by rw [kn_cats]; exact hrs)) hd ⟨?_, ?_⟩)
  · simp only [List.mem_cons, List.not_mem_nil, or_false] at hw
    rcases hw with rfl | rfl | rfl
    · exact hL
    · exact g3
    · exact g4
  · have := hA.2.1.1; have := Cx.2.2.1; omega
  · have := hA.2.1.2; have := Cx.2.2.2; omega
theorem k_invSH {M2 : kn_M} (hd : decode M.2.1 pc = .ok (.invokestatic idx, 3)) (hm : kn_mSH M2 k) (hL : Cond.methodLink M.1.cls idx M2.1 ∈ kn_ws) (hf : kn_fit M M2) (hst : st = As.reverse ++ rest) (hn : As.length = k) (hrs : (rest.map fun v => v.category).sum ≤ 8) (h1 : c1 ≤ c) (h2 : n1 ≤ n)
    (hE : kn_Ev X M2 As σ τ z c1 n1 (kn_K X M pc lv rest z.1 (c - c1) (n - n1) Q)) : kn_Go X M pc lv st σ τ z c n Q := by
  intro D cs z0 ar p l e R s m args below meth cd n0 a0 mc ms QF Cx ad H locs ls cells slots hA
  obtain ⟨g1, g2, ⟨g3, g4⟩, g6⟩ := hm
  refine kn_after Cx hA h1 h2 kn_hk (vx_runSX (As := As.map (kn_cv ad ar)) (rest := rest.map (kn_cv ad ar)) Cx.1.1 (hE l D cs z0 ar ad Cx.1.2.1.1)
    (vx_cwSW k Cx.1.1.2.2.2.2 (kn_goods (fun w hw => ?_) g2) (kn_wH g1) rfl rfl g6 ⟨Nat.le_trans hf.1 Cx.1.2.2.1.1, Nat.le_trans hf.2 Cx.1.2.2.1.2⟩)
    ⟨kn_blind, fun U hU hW => kn_pre Cx.1 hA.2.2.1 hA.2.2.2.1 As hU hW⟩
    rfl (by rw [List.length_map]; exact hn) hA.2.2.2.2.1 (kn_stkS hst) (lv_room (by rw [kn_cats]; exact hrs)) hd ⟨?_, ?_⟩)
  · simp only [List.mem_cons, List.not_mem_nil, or_false] at hw
    rcases hw with rfl | rfl | rfl
    · exact hL
    · exact g3
    · exact g4
  · have := hA.2.1.1; have := Cx.2.2.1; omega
  · have := hA.2.1.2; have := Cx.2.2.2; omega
theorem k_invI {M2 : kn_M} (hd : decode M.2.1 pc = .ok (.invokespecial idx, 3)) (hm : kn_mI M2 k) (hL : Cond.methodLink M.1.cls idx M2.1 ∈ kn_ws) (hf : kn_fit M M2) (hst : st = As.reverse ++ .ref i :: rest) (hn : As.length = k) (hrs : (rest.map fun v => v.category).sum ≤ 8) (h1 : c1 ≤ c) (h2 : n1 ≤ n) (v1 : kn_vok z.1 rest) (v2 : kn_vok z.1 (lv.map (fun q => q.2)))
    (hE : kn_Ev X M2 (.ref i :: As) σ τ z c1 n1 (kn_KN X M pc lv rest (c - c1) (n - n1) Q)) : kn_Go X M pc lv st σ τ z c n Q := by
  intro D cs z0 ar p l e R s m args below meth cd n0 a0 mc ms QF Cx ad H locs ls cells slots hA
  obtain ⟨g1, g2, ⟨g3, g4, g5, g7⟩, g6⟩ := hm
  have hts := Cx.1.1.2.2.2.2
  refine kn_after Cx hA h1 h2 (kn_hkN v1 v2) (vx_runI (As := As.map (kn_cv ad ar)) (rest := rest.map (kn_cv ad ar)) Cx.1.1 (hE l D cs z0 ar ad Cx.1.2.1.1)
    (cwI k hts (kn_good0 g2) ((kn_w0 g1).trans (by rw [g7])) rfl rfl (hts _ g4) (hts _ hL) (hts _ g3) g5 g6 ⟨Nat.le_trans hf.1 Cx.1.2.2.1.1, Nat.le_trans hf.2 Cx.1.2.2.1.2⟩)
    ⟨kn_blind, fun U hU hW => kn_pre Cx.1 hA.2.2.1 hA.2.2.2.1 (.ref i :: As) hU hW⟩
    rfl (by rw [List.length_map]; exact hn) hA.2.2.2.2.1 (kn_stk hst) (lv_room (by rw [kn_cats]; exact hrs)) hd ⟨?_, ?_⟩)
  · have := hA.2.1.1; have := Cx.2.2.1; omega
  · have := hA.2.1.2; have := Cx.2.2.2; omega
theorem k_invIN {M2 : kn_M} {host : String} (hd : decode M.2.1 pc = .ok (.invokespecial idx, 3)) (hm : kn_mI M2 k) (hL : Cond.methodLinkNest M.1.cls idx M2.1 host ∈ kn_bad) (hf : kn_fit M M2) (hst : st = As.reverse ++ .ref i :: rest) (hn : As.length = k) (hrs : (rest.map fun v => v.category).sum ≤ 8) (h1 : c1 ≤ c) (h2 : n1 ≤ n) (v1 : kn_vok z.1 rest) (v2 : kn_vok z.1 (lv.map (fun q => q.2)))
    (hE : kn_Ev X M2 (.ref i :: As) σ τ z c1 n1 (kn_KN X M pc lv rest (c - c1) (n - n1) Q)) : kn_Go X M pc lv st σ τ z c n Q := by
  intro D cs z0 ar p l e R s m args below meth cd n0 a0 mc ms QF Cx ad H locs ls cells slots hA
  obtain ⟨g1, g2, ⟨g3, g4, g5, g7⟩, g6⟩ := hm
  have hts := Cx.1.1.2.2.2.2
  refine kn_after Cx hA h1 h2 (kn_hkN v1 v2) (vx_runIN (As := As.map (kn_cv ad ar)) (rest := rest.map (kn_cv ad ar)) Cx.1.1 (hE l D cs z0 ar ad Cx.1.2.1.1)
    ⟨va_cnB k hts (kn_good0 g2) ((kn_w0 g1).trans (by rw [g7])) rfl rfl (Cx.1.2.2.2.2.2.2.2.2.1 _ hL) (hts _ g4) g6 ⟨Nat.le_trans hf.1 Cx.1.2.2.1.1, Nat.le_trans hf.2 Cx.1.2.2.1.2⟩, g5, hts _ g3⟩
    ⟨kn_blind, fun U hU hW => kn_pre Cx.1 hA.2.2.1 hA.2.2.2.1 (.ref i :: As) hU hW⟩
    rfl (by rw [List.length_map]; exact hn) hA.2.2.2.2.1 (kn_stk hst) (lv_room (by rw [kn_cats]; exact hrs)) hd ⟨?_, ?_⟩)
  · have := hA.2.1.1; have := Cx.2.2.1; omega
  · have := hA.2.1.2; have := Cx.2.2.2; omega
theorem k_objInit (hd : decode M.2.1 pc = .ok (.invokespecial idx, 3)) (hL : Cond.methodLink M.1.cls idx Lib.objectInit ∈ kn_ws) (h3 : Cond.instanceMethod Lib.objectInit ∈ kn_ws ∧ Cond.code Lib.objectInit ⟨#[0xb1]⟩ 1 none ∈ kn_ws) (hf : 1 ≤ M.2.2.2.2.2.1 ∧ (rest.map fun v => v.category).sum + 12 ≤ M.2.2.2.2.2.2)
    (k : kn_Go X M (pc + 3) lv rest σ τ z c n Q) : kn_Go X M pc lv (.ref i :: rest) σ τ z c n Q := by
  intro D cs z0 ar p l e R s m args below meth cd n0 a0 mc ms QF Cx ad H locs ls cells slots hA
  have hts := Cx.1.1.2.2.2.2
  refine W.objInit Cx.1.1.1 Cx.1.1.2.1 Cx.1.1.2.2.2.1 (hts _ hL) (hts _ h3.1) (hts _ h3.2) rfl (by rw [Cx.1.1.2.2.1]; exact hA.2.2.2.2.1) rfl hd (Nat.le_trans hf.1 Cx.1.2.2.1.1) ?_ ?_
  · have h9 := Nat.le_trans hf.2 Cx.1.2.2.1.2
    rw [kn_cats]
    have h8 : (F0 m pc ls (List.map (kn_cv ad ar) (Value.ref i :: rest))).monitorRoom = 0 := rfl
    omega
  · exact k D cs z0 ar p l e R s m args below meth cd n0 a0 mc ms QF Cx ad H locs ls cells slots hA
end KNV
end
section
-- the words by their places, the methods, the classes
theorem wL_L_83 : Cond.methodLink RL 83 yX6_init ∈ kn_ws := kn_in 57 (by decide +kernel) (by decide +kernel)
theorem wL_X6_3 : Cond.methodLink RX6 3 Lib.objectInit ∈ kn_ws := kn_in 60 (by decide +kernel) (by decide +kernel)
theorem wL_X6_11 : Cond.methodLink RX6 11 yX5_init ∈ kn_ws := kn_in 65 (by decide +kernel) (by decide +kernel)
theorem wL_X5_3 : Cond.methodLink RX5 3 Lib.objectInit ∈ kn_ws := kn_in 68 (by decide +kernel) (by decide +kernel)
theorem wL_X5_11 : Cond.methodLink RX5 11 yX4_init ∈ kn_ws := kn_in 71 (by decide +kernel) (by decide +kernel)
theorem wL_X4_1 : Cond.methodLink RX4 1 Lib.objectInit ∈ kn_ws := kn_in 74 (by decide +kernel) (by decide +kernel)
theorem wL_X4_7 : Cond.methodLink RX4 7 yJ9_max_7cf53 ∈ kn_ws := kn_in 75 (by decide +kernel) (by decide +kernel)
theorem wNM_X5_37 : Cond.methodLinkNest RX5 37 yX3_init "KnockControl" ∈ kn_bad := kn_inb 85 (by decide +kernel) (by decide +kernel)
theorem wL_X3_3 : Cond.methodLink RX3 3 Lib.objectInit ∈ kn_ws := kn_in 88 (by decide +kernel) (by decide +kernel)
theorem wL_X3_11 : Cond.methodLink RX3 11 yX4_init ∈ kn_ws := kn_in 90 (by decide +kernel) (by decide +kernel)
theorem wL_X5_46 : Cond.methodLink RX5 46 yX4_put ∈ kn_ws := kn_in 109 (by decide +kernel) (by decide +kernel)
theorem wL_X5_58 : Cond.methodLink RX5 58 yX5_restart ∈ kn_ws := kn_in 113 (by decide +kernel) (by decide +kernel)
theorem wL_X5_64 : Cond.methodLink RX5 64 yX4_fill ∈ kn_ws := kn_in 117 (by decide +kernel) (by decide +kernel)
theorem wL_X5_68 : Cond.methodLink RX5 68 yX3_empty ∈ kn_ws := kn_in 122 (by decide +kernel) (by decide +kernel)
theorem wL_X6_21 : Cond.methodLink RX6 21 yX2_init ∈ kn_ws := kn_in 188 (by decide +kernel) (by decide +kernel)
theorem wL_X2_3 : Cond.methodLink RX2 3 Lib.objectInit ∈ kn_ws := kn_in 191 (by decide +kernel) (by decide +kernel)
theorem wL_X2_17 : Cond.methodLink RX2 17 yX5_init ∈ kn_ws := kn_in 194 (by decide +kernel) (by decide +kernel)
theorem wNM_X6_28 : Cond.methodLinkNest RX6 28 yX1_init "KnockControl" ∈ kn_bad := kn_inb 207 (by decide +kernel) (by decide +kernel)
theorem wL_X1_3 : Cond.methodLink RX1 3 Lib.objectInit ∈ kn_ws := kn_in 210 (by decide +kernel) (by decide +kernel)
theorem wL_X1_11 : Cond.methodLink RX1 11 yX4_init ∈ kn_ws := kn_in 212 (by decide +kernel) (by decide +kernel)
theorem wL_L_107 : Cond.methodLink RL 107 yX6_breakSensor ∈ kn_ws := kn_in 239 (by decide +kernel) (by decide +kernel)
theorem wL_X6_45 : Cond.methodLink RX6 45 yX2_keep ∈ kn_ws := kn_in 243 (by decide +kernel) (by decide +kernel)
theorem wL_X2_22 : Cond.methodLink RX2 22 yX2_placeOf ∈ kn_ws := kn_in 247 (by decide +kernel) (by decide +kernel)
theorem wL_X2_26 : Cond.methodLink RX2 26 yX5_copy ∈ kn_ws := kn_in 251 (by decide +kernel) (by decide +kernel)
theorem wL_X5_92 : Cond.methodLink RX5 92 yX4_copy ∈ kn_ws := kn_in 255 (by decide +kernel) (by decide +kernel)
theorem wL_X4_19 : Cond.methodLink RX4 19 yX4_at ∈ kn_ws := kn_in 259 (by decide +kernel) (by decide +kernel)
theorem wL_X5_96 : Cond.methodLink RX5 96 yX3_copy ∈ kn_ws := kn_in 263 (by decide +kernel) (by decide +kernel)
theorem wL_X3_44 : Cond.methodLink RX3 44 yX4_copy ∈ kn_ws := kn_in 267 (by decide +kernel) (by decide +kernel)
theorem wL_L_122 : Cond.methodLink RL 122 yX6_firings ∈ kn_ws := kn_in 268 (by decide +kernel) (by decide +kernel)
theorem wL_L_126 : Cond.methodLink RL 126 yX6_next ∈ kn_ws := kn_in 272 (by decide +kernel) (by decide +kernel)
theorem wL_L_143 : Cond.methodLink RL 143 yX6_unfairness ∈ kn_ws := kn_in 276 (by decide +kernel) (by decide +kernel)
theorem wL_X6_132 : Cond.methodLink RX6 132 yX5_greatestFast ∈ kn_ws := kn_in 280 (by decide +kernel) (by decide +kernel)
theorem wL_X5_99 : Cond.methodLink RX5 99 yX4_at ∈ kn_ws := kn_in 284 (by decide +kernel) (by decide +kernel)
theorem wL_X5_123 : Cond.methodLink RX5 123 yJ9_max_7cf53 ∈ kn_ws := kn_in 285 (by decide +kernel) (by decide +kernel)
theorem wL_X6_136 : Cond.methodLink RX6 136 yX5_smallestFast ∈ kn_ws := kn_in 286 (by decide +kernel) (by decide +kernel)
theorem wL_X5_106 : Cond.methodLink RX5 106 yJ9_min_7cf53 ∈ kn_ws := kn_in 290 (by decide +kernel) (by decide +kernel)
theorem wL_L_147 : Cond.methodLink RL 147 yX6_rateBits ∈ kn_ws := kn_in 293 (by decide +kernel) (by decide +kernel)
theorem wL_X6_139 : Cond.methodLink RX6 139 yX5_allKnocks ∈ kn_ws := kn_in 297 (by decide +kernel) (by decide +kernel)
theorem wL_X6_142 : Cond.methodLink RX6 142 yX6_bitsOfShare ∈ kn_ws := kn_in 301 (by decide +kernel) (by decide +kernel)
theorem wL_L_159 : Cond.methodLink RL 159 yX6_events ∈ kn_ws := kn_in 306 (by decide +kernel) (by decide +kernel)
theorem wL_X6_162 : Cond.methodLink RX6 162 yX3_size ∈ kn_ws := kn_in 310 (by decide +kernel) (by decide +kernel)
theorem wL_L_181 : Cond.methodLink RL 181 yX6_clearText ∈ kn_ws := kn_in 314 (by decide +kernel) (by decide +kernel)
theorem wL_X6_183 : Cond.methodLink RX6 183 yX1_size ∈ kn_ws := kn_in 318 (by decide +kernel) (by decide +kernel)
theorem wL_X6_190 : Cond.methodLink RX6 190 yX1_empty ∈ kn_ws := kn_in 322 (by decide +kernel) (by decide +kernel)
theorem wL_L_185 : Cond.methodLink RL 185 yX6_replay ∈ kn_ws := kn_in 326 (by decide +kernel) (by decide +kernel)
theorem wL_X6_193 : Cond.methodLink RX6 193 yX1_read ∈ kn_ws := kn_in 330 (by decide +kernel) (by decide +kernel)
theorem wL_X1_34 : Cond.methodLink RX1 34 yX4_at ∈ kn_ws := kn_in 334 (by decide +kernel) (by decide +kernel)
theorem wL_X1_38 : Cond.methodLink RX1 38 yX1_separator ∈ kn_ws := kn_in 335 (by decide +kernel) (by decide +kernel)
theorem wL_X1_27 : Cond.methodLink RX1 27 yX4_put ∈ kn_ws := kn_in 339 (by decide +kernel) (by decide +kernel)
theorem wL_X6_196 : Cond.methodLink RX6 196 yX6_firstWrongFiring ∈ kn_ws := kn_in 340 (by decide +kernel) (by decide +kernel)
theorem wL_X6_199 : Cond.methodLink RX6 199 yX1_firingsRead ∈ kn_ws := kn_in 344 (by decide +kernel) (by decide +kernel)
theorem wL_X6_202 : Cond.methodLink RX6 202 yX1_number ∈ kn_ws := kn_in 348 (by decide +kernel) (by decide +kernel)
theorem wL_X6_91 : Cond.methodLink RX6 91 yX6_isFiring ∈ kn_ws := kn_in 352 (by decide +kernel) (by decide +kernel)
theorem wL_X6_115 : Cond.methodLink RX6 115 yX6_isOperation ∈ kn_ws := kn_in 355 (by decide +kernel) (by decide +kernel)
theorem wL_X6_33 : Cond.methodLink RX6 33 yX6_within ∈ kn_ws := kn_in 358 (by decide +kernel) (by decide +kernel)
theorem wL_X6_94 : Cond.methodLink RX6 94 yX5_treat ∈ kn_ws := kn_in 361 (by decide +kernel) (by decide +kernel)
theorem wL_X5_117 : Cond.methodLink RX5 117 yX0_cellOf ∈ kn_ws := kn_in 365 (by decide +kernel) (by decide +kernel)
theorem wL_X0_9 : Cond.methodLink RX0 9 yJ9_min_7cf53 ∈ kn_ws := kn_in 368 (by decide +kernel) (by decide +kernel)
theorem wL_X5_143 : Cond.methodLink RX5 143 yX5_watchSensor ∈ kn_ws := kn_in 369 (by decide +kernel) (by decide +kernel)
theorem wL_X5_155 : Cond.methodLink RX5 155 yX3_note ∈ kn_ws := kn_in 373 (by decide +kernel) (by decide +kernel)
theorem wL_X3_33 : Cond.methodLink RX3 33 yX3_placeOf ∈ kn_ws := kn_in 377 (by decide +kernel) (by decide +kernel)
theorem wL_X3_37 : Cond.methodLink RX3 37 yX4_put ∈ kn_ws := kn_in 381 (by decide +kernel) (by decide +kernel)
theorem wL_X5_146 : Cond.methodLink RX5 146 yX5_listen ∈ kn_ws := kn_in 382 (by decide +kernel) (by decide +kernel)
theorem wL_X5_103 : Cond.methodLink RX5 103 yX5_thresholdOf ∈ kn_ws := kn_in 386 (by decide +kernel) (by decide +kernel)
theorem wL_X5_159 : Cond.methodLink RX5 159 yX5_retardFast ∈ kn_ws := kn_in 390 (by decide +kernel) (by decide +kernel)
theorem wL_X5_163 : Cond.methodLink RX5 163 yX4_raise ∈ kn_ws := kn_in 394 (by decide +kernel) (by decide +kernel)
theorem wL_X5_166 : Cond.methodLink RX5 166 yJ9_floorDiv_7cf53 ∈ kn_ws := kn_in 398 (by decide +kernel) (by decide +kernel)
theorem wL_X5_169 : Cond.methodLink RX5 169 yX5_lowerFast ∈ kn_ws := kn_in 401 (by decide +kernel) (by decide +kernel)
theorem wL_X5_149 : Cond.methodLink RX5 149 yX5_keepTogether ∈ kn_ws := kn_in 405 (by decide +kernel) (by decide +kernel)
theorem wL_X5_172 : Cond.methodLink RX5 172 yX5_greatestFast ∈ kn_ws := kn_in 409 (by decide +kernel) (by decide +kernel)
theorem wL_X5_152 : Cond.methodLink RX5 152 yX5_learn ∈ kn_ws := kn_in 410 (by decide +kernel) (by decide +kernel)
theorem wL_X5_176 : Cond.methodLink RX5 176 yX5_sumOfFast ∈ kn_ws := kn_in 414 (by decide +kernel) (by decide +kernel)
theorem wL_L_193 : Cond.methodLink RL 193 yX6_digest ∈ kn_ws := kn_in 418 (by decide +kernel) (by decide +kernel)
theorem wL_X6_211 : Cond.methodLink RX6 211 yX6_mix ∈ kn_ws := kn_in 423 (by decide +kernel) (by decide +kernel)
theorem wL_X6_71 : Cond.methodLink RX6 71 yX5_settingOrCylinders ∈ kn_ws := kn_in 427 (by decide +kernel) (by decide +kernel)
theorem wL_X6_129 : Cond.methodLink RX6 129 yX5_aboutControl ∈ kn_ws := kn_in 431 (by decide +kernel) (by decide +kernel)
theorem wL_X6_111 : Cond.methodLink RX6 111 yX5_aboutCylinder ∈ kn_ws := kn_in 435 (by decide +kernel) (by decide +kernel)
theorem wL_X6_61 : Cond.methodLink RX6 61 yX4_at ∈ kn_ws := kn_in 439 (by decide +kernel) (by decide +kernel)
theorem wL_X6_167 : Cond.methodLink RX6 167 yX3_about ∈ kn_ws := kn_in 440 (by decide +kernel) (by decide +kernel)
theorem wL_X3_41 : Cond.methodLink RX3 41 yX4_at ∈ kn_ws := kn_in 444 (by decide +kernel) (by decide +kernel)
theorem wL_X6_205 : Cond.methodLink RX6 205 yX2_size ∈ kn_ws := kn_in 445 (by decide +kernel) (by decide +kernel)
theorem wL_L_87 : Cond.methodLink RL 87 yL_begin ∈ kn_ws := kn_in 449 (by decide +kernel) (by decide +kernel)
theorem wL_L_7 : Cond.methodLink RL 7 yX6_begin ∈ kn_ws := kn_in 453 (by decide +kernel) (by decide +kernel)
theorem wL_X6_37 : Cond.methodLink RX6 37 yX6_demand ∈ kn_ws := kn_in 457 (by decide +kernel) (by decide +kernel)
theorem wL_X6_49 : Cond.methodLink RX6 49 yX5_restart ∈ kn_ws := kn_in 528 (by decide +kernel) (by decide +kernel)
theorem wL_L_96 : Cond.methodLink RL 96 yL_set ∈ kn_ws := kn_in 529 (by decide +kernel) (by decide +kernel)
theorem wL_L_15 : Cond.methodLink RL 15 yX6_set ∈ kn_ws := kn_in 532 (by decide +kernel) (by decide +kernel)
theorem wL_X6_53 : Cond.methodLink RX6 53 yX6_isSetting ∈ kn_ws := kn_in 536 (by decide +kernel) (by decide +kernel)
theorem wL_X6_67 : Cond.methodLink RX6 67 yX4_put ∈ kn_ws := kn_in 543 (by decide +kernel) (by decide +kernel)
theorem wL_L_100 : Cond.methodLink RL 100 yL_value ∈ kn_ws := kn_in 544 (by decide +kernel) (by decide +kernel)
theorem wL_L_19 : Cond.methodLink RL 19 yX6_value ∈ kn_ws := kn_in 547 (by decide +kernel) (by decide +kernel)
theorem wL_L_103 : Cond.methodLink RL 103 yL_teach ∈ kn_ws := kn_in 551 (by decide +kernel) (by decide +kernel)
theorem wL_L_22 : Cond.methodLink RL 22 yX6_teach ∈ kn_ws := kn_in 555 (by decide +kernel) (by decide +kernel)
theorem wL_X6_74 : Cond.methodLink RX6 74 yX6_isCell ∈ kn_ws := kn_in 559 (by decide +kernel) (by decide +kernel)
theorem wL_X6_77 : Cond.methodLink RX6 77 yX6_demandPlace ∈ kn_ws := kn_in 562 (by decide +kernel) (by decide +kernel)
theorem wL_L_112 : Cond.methodLink RL 112 yL_seed ∈ kn_ws := kn_in 581 (by decide +kernel) (by decide +kernel)
theorem wL_L_28 : Cond.methodLink RL 28 yX6_seed ∈ kn_ws := kn_in 584 (by decide +kernel) (by decide +kernel)
theorem wL_L_115 : Cond.methodLink RL 115 yL_fire ∈ kn_ws := kn_in 589 (by decide +kernel) (by decide +kernel)
theorem wL_L_31 : Cond.methodLink RL 31 yX6_fire ∈ kn_ws := kn_in 592 (by decide +kernel) (by decide +kernel)
theorem wL_L_118 : Cond.methodLink RL 118 yL_drive ∈ kn_ws := kn_in 596 (by decide +kernel) (by decide +kernel)
theorem wL_L_34 : Cond.methodLink RL 34 yX6_drive ∈ kn_ws := kn_in 599 (by decide +kernel) (by decide +kernel)
theorem wL_X6_98 : Cond.methodLink RX6 98 yX6_isDriving ∈ kn_ws := kn_in 603 (by decide +kernel) (by decide +kernel)
theorem wL_X6_101 : Cond.methodLink RX6 101 yX5_treatModelled ∈ kn_ws := kn_in 606 (by decide +kernel) (by decide +kernel)
theorem wL_X5_132 : Cond.methodLink RX5 132 yX5_treat ∈ kn_ws := kn_in 613 (by decide +kernel) (by decide +kernel)
theorem wL_X5_137 : Cond.methodLink RX5 137 yX5_advanceOf ∈ kn_ws := kn_in 615 (by decide +kernel) (by decide +kernel)
theorem wL_X5_112 : Cond.methodLink RX5 112 yX0_basicAdvance ∈ kn_ws := kn_in 619 (by decide +kernel) (by decide +kernel)
theorem wL_X5_120 : Cond.methodLink RX5 120 yX5_retardOf ∈ kn_ws := kn_in 622 (by decide +kernel) (by decide +kernel)
theorem wL_X5_140 : Cond.methodLink RX5 140 yX0_knockLimit ∈ kn_ws := kn_in 626 (by decide +kernel) (by decide +kernel)
theorem wL_L_130 : Cond.methodLink RL 130 yL_cylinder ∈ kn_ws := kn_in 629 (by decide +kernel) (by decide +kernel)
theorem wL_L_38 : Cond.methodLink RL 38 yX6_cylinder ∈ kn_ws := kn_in 632 (by decide +kernel) (by decide +kernel)
theorem wL_X6_107 : Cond.methodLink RX6 107 yX6_isCylinder ∈ kn_ws := kn_in 636 (by decide +kernel) (by decide +kernel)
theorem wL_L_133 : Cond.methodLink RL 133 yL_learned ∈ kn_ws := kn_in 640 (by decide +kernel) (by decide +kernel)
theorem wL_L_41 : Cond.methodLink RL 41 yX6_learned ∈ kn_ws := kn_in 643 (by decide +kernel) (by decide +kernel)
theorem wL_L_136 : Cond.methodLink RL 136 yL_angle ∈ kn_ws := kn_in 647 (by decide +kernel) (by decide +kernel)
theorem wL_L_44 : Cond.methodLink RL 44 yX6_angle ∈ kn_ws := kn_in 650 (by decide +kernel) (by decide +kernel)
theorem wL_X6_118 : Cond.methodLink RX6 118 yX5_advanceOf ∈ kn_ws := kn_in 654 (by decide +kernel) (by decide +kernel)
theorem wL_X6_121 : Cond.methodLink RX6 121 yX0_cellOf ∈ kn_ws := kn_in 655 (by decide +kernel) (by decide +kernel)
theorem wL_X6_126 : Cond.methodLink RX6 126 yX5_retardOf ∈ kn_ws := kn_in 656 (by decide +kernel) (by decide +kernel)
theorem wL_L_140 : Cond.methodLink RL 140 yL_status ∈ kn_ws := kn_in 657 (by decide +kernel) (by decide +kernel)
theorem wL_L_48 : Cond.methodLink RL 48 yX6_status ∈ kn_ws := kn_in 660 (by decide +kernel) (by decide +kernel)
theorem wL_L_151 : Cond.methodLink RL 151 yL_octane ∈ kn_ws := kn_in 664 (by decide +kernel) (by decide +kernel)
theorem wL_L_51 : Cond.methodLink RL 51 yX6_octane ∈ kn_ws := kn_in 667 (by decide +kernel) (by decide +kernel)
theorem wL_L_155 : Cond.methodLink RL 155 yL_extreme ∈ kn_ws := kn_in 673 (by decide +kernel) (by decide +kernel)
theorem wL_L_55 : Cond.methodLink RL 55 yX6_extreme ∈ kn_ws := kn_in 676 (by decide +kernel) (by decide +kernel)
theorem wL_X6_150 : Cond.methodLink RX6 150 yJ9_max_7cf53 ∈ kn_ws := kn_in 680 (by decide +kernel) (by decide +kernel)
theorem wL_X6_155 : Cond.methodLink RX6 155 yJ9_min_7cf53 ∈ kn_ws := kn_in 681 (by decide +kernel) (by decide +kernel)
theorem wL_L_163 : Cond.methodLink RL 163 yL_event ∈ kn_ws := kn_in 682 (by decide +kernel) (by decide +kernel)
theorem wL_L_59 : Cond.methodLink RL 59 yX6_event ∈ kn_ws := kn_in 685 (by decide +kernel) (by decide +kernel)
theorem wL_L_166 : Cond.methodLink RL 166 yL_eventsOf ∈ kn_ws := kn_in 689 (by decide +kernel) (by decide +kernel)
theorem wL_L_62 : Cond.methodLink RL 62 yX6_eventsOf ∈ kn_ws := kn_in 692 (by decide +kernel) (by decide +kernel)
theorem wL_L_169 : Cond.methodLink RL 169 yL_limit ∈ kn_ws := kn_in 696 (by decide +kernel) (by decide +kernel)
theorem wL_L_65 : Cond.methodLink RL 65 yX6_limit ∈ kn_ws := kn_in 699 (by decide +kernel) (by decide +kernel)
theorem wL_X6_170 : Cond.methodLink RX6 170 yX0_knockLimit ∈ kn_ws := kn_in 703 (by decide +kernel) (by decide +kernel)
theorem wL_L_172 : Cond.methodLink RL 172 yL_quietAfter ∈ kn_ws := kn_in 704 (by decide +kernel) (by decide +kernel)
theorem wL_L_68 : Cond.methodLink RL 68 yX6_quietAfter ∈ kn_ws := kn_in 707 (by decide +kernel) (by decide +kernel)
theorem wL_X6_173 : Cond.methodLink RX6 173 yX5_copy ∈ kn_ws := kn_in 711 (by decide +kernel) (by decide +kernel)
theorem wL_L_175 : Cond.methodLink RL 175 yL_lowestOctane ∈ kn_ws := kn_in 712 (by decide +kernel) (by decide +kernel)
theorem wL_L_71 : Cond.methodLink RL 71 yX6_lowestOctane ∈ kn_ws := kn_in 715 (by decide +kernel) (by decide +kernel)
theorem wL_X6_179 : Cond.methodLink RX6 179 yX6_staysQuiet ∈ kn_ws := kn_in 719 (by decide +kernel) (by decide +kernel)
theorem wL_L_178 : Cond.methodLink RL 178 yL_append ∈ kn_ws := kn_in 723 (by decide +kernel) (by decide +kernel)
theorem wL_L_74 : Cond.methodLink RL 74 yX6_append ∈ kn_ws := kn_in 727 (by decide +kernel) (by decide +kernel)
theorem wL_X6_184 : Cond.methodLink RX6 184 yX6_demandState ∈ kn_ws := kn_in 731 (by decide +kernel) (by decide +kernel)
theorem wL_X6_187 : Cond.methodLink RX6 187 yX1_add ∈ kn_ws := kn_in 750 (by decide +kernel) (by decide +kernel)
theorem wL_L_189 : Cond.methodLink RL 189 yL_undo ∈ kn_ws := kn_in 754 (by decide +kernel) (by decide +kernel)
theorem wL_L_79 : Cond.methodLink RL 79 yX6_undo ∈ kn_ws := kn_in 757 (by decide +kernel) (by decide +kernel)
theorem wL_X6_206 : Cond.methodLink RX6 206 yX2_restore ∈ kn_ws := kn_in 761 (by decide +kernel) (by decide +kernel)
theorem wL_L_86 : Cond.methodLink RL 86 yX7_init ∈ kn_ws := kn_in 767 (by decide +kernel) (by decide +kernel)
theorem wL_X7_1 : Cond.methodLink RX7 1 Lib.objectInit ∈ kn_ws := kn_in 770 (by decide +kernel) (by decide +kernel)
theorem wL_X7_22 : Cond.methodLink RX7 22 yX7_begins ∈ kn_ws := kn_in 771 (by decide +kernel) (by decide +kernel)
theorem wL_L_93 : Cond.methodLink RL 93 yX7_thrown ∈ kn_ws := kn_in 816 (by decide +kernel) (by decide +kernel)
theorem wL_L_192 : Cond.methodLink RL 192 yX7_undo ∈ kn_ws := kn_in 820 (by decide +kernel) (by decide +kernel)
theorem wL_X7_34 : Cond.methodLink RX7 34 yX7_refused ∈ kn_ws := kn_in 824 (by decide +kernel) (by decide +kernel)
theorem wL_L_92 : Cond.methodLink RL 92 yX7_begin ∈ kn_ws := kn_in 828 (by decide +kernel) (by decide +kernel)
theorem wL_X7_38 : Cond.methodLink RX7 38 yX7_within ∈ kn_ws := kn_in 832 (by decide +kernel) (by decide +kernel)
theorem wL_X7_42 : Cond.methodLink RX7 42 yX7_saves ∈ kn_ws := kn_in 835 (by decide +kernel) (by decide +kernel)
theorem wL_L_99 : Cond.methodLink RL 99 yX7_set ∈ kn_ws := kn_in 839 (by decide +kernel) (by decide +kernel)
theorem wL_X7_45 : Cond.methodLink RX7 45 yX7_isSetting ∈ kn_ws := kn_in 843 (by decide +kernel) (by decide +kernel)
theorem wL_L_102 : Cond.methodLink RL 102 yX7_value ∈ kn_ws := kn_in 846 (by decide +kernel) (by decide +kernel)
theorem wL_L_106 : Cond.methodLink RL 106 yX7_teach ∈ kn_ws := kn_in 850 (by decide +kernel) (by decide +kernel)
theorem wL_X7_49 : Cond.methodLink RX7 49 yX7_isCell ∈ kn_ws := kn_in 854 (by decide +kernel) (by decide +kernel)
theorem wL_L_111 : Cond.methodLink RL 111 yX7_breakSensor ∈ kn_ws := kn_in 857 (by decide +kernel) (by decide +kernel)
theorem wL_L_114 : Cond.methodLink RL 114 yX7_seed ∈ kn_ws := kn_in 861 (by decide +kernel) (by decide +kernel)
theorem wL_L_117 : Cond.methodLink RL 117 yX7_fire ∈ kn_ws := kn_in 866 (by decide +kernel) (by decide +kernel)
theorem wL_X7_111 : Cond.methodLink RX7 111 yX7_isPoint ∈ kn_ws := kn_in 870 (by decide +kernel) (by decide +kernel)
theorem wL_X7_108 : Cond.methodLink RX7 108 yX7_treats ∈ kn_ws := kn_in 873 (by decide +kernel) (by decide +kernel)
theorem wL_X7_57 : Cond.methodLink RX7 57 yX7_cellOf ∈ kn_ws := kn_in 877 (by decide +kernel) (by decide +kernel)
theorem wL_X7_53 : Cond.methodLink RX7 53 yX7_lesser ∈ kn_ws := kn_in 880 (by decide +kernel) (by decide +kernel)
theorem wL_X7_74 : Cond.methodLink RX7 74 yX7_senses ∈ kn_ws := kn_in 883 (by decide +kernel) (by decide +kernel)
theorem wL_X7_63 : Cond.methodLink RX7 63 yX7_logs ∈ kn_ws := kn_in 887 (by decide +kernel) (by decide +kernel)
theorem wL_X7_77 : Cond.methodLink RX7 77 yX7_threshold ∈ kn_ws := kn_in 891 (by decide +kernel) (by decide +kernel)
theorem wL_X7_81 : Cond.methodLink RX7 81 yX7_knocks ∈ kn_ws := kn_in 895 (by decide +kernel) (by decide +kernel)
theorem wL_X7_85 : Cond.methodLink RX7 85 yX7_rests ∈ kn_ws := kn_in 899 (by decide +kernel) (by decide +kernel)
theorem wL_X7_67 : Cond.methodLink RX7 67 yX7_floor ∈ kn_ws := kn_in 903 (by decide +kernel) (by decide +kernel)
theorem wL_X7_88 : Cond.methodLink RX7 88 yX7_evens ∈ kn_ws := kn_in 906 (by decide +kernel) (by decide +kernel)
theorem wL_X7_70 : Cond.methodLink RX7 70 yX7_greatest ∈ kn_ws := kn_in 910 (by decide +kernel) (by decide +kernel)
theorem wL_X7_91 : Cond.methodLink RX7 91 yX7_learns ∈ kn_ws := kn_in 914 (by decide +kernel) (by decide +kernel)
theorem wL_L_121 : Cond.methodLink RL 121 yX7_drive ∈ kn_ws := kn_in 918 (by decide +kernel) (by decide +kernel)
theorem wL_X7_114 : Cond.methodLink RX7 114 yX7_isOctane ∈ kn_ws := kn_in 922 (by decide +kernel) (by decide +kernel)
theorem wL_X7_117 : Cond.methodLink RX7 117 yX7_fires ∈ kn_ws := kn_in 925 (by decide +kernel) (by decide +kernel)
theorem wL_X7_100 : Cond.methodLink RX7 100 yX7_advance ∈ kn_ws := kn_in 932 (by decide +kernel) (by decide +kernel)
theorem wL_X7_60 : Cond.methodLink RX7 60 yX7_retard ∈ kn_ws := kn_in 936 (by decide +kernel) (by decide +kernel)
theorem wL_X7_104 : Cond.methodLink RX7 104 yX7_knockLimit ∈ kn_ws := kn_in 940 (by decide +kernel) (by decide +kernel)
theorem wL_L_125 : Cond.methodLink RL 125 yX7_firings ∈ kn_ws := kn_in 944 (by decide +kernel) (by decide +kernel)
theorem wL_L_129 : Cond.methodLink RL 129 yX7_next ∈ kn_ws := kn_in 948 (by decide +kernel) (by decide +kernel)
theorem wL_L_132 : Cond.methodLink RL 132 yX7_cylinder ∈ kn_ws := kn_in 952 (by decide +kernel) (by decide +kernel)
theorem wL_X7_120 : Cond.methodLink RX7 120 yX7_isCylinder ∈ kn_ws := kn_in 956 (by decide +kernel) (by decide +kernel)
theorem wL_X7_123 : Cond.methodLink RX7 123 yX7_tellCylinder ∈ kn_ws := kn_in 960 (by decide +kernel) (by decide +kernel)
theorem wL_L_135 : Cond.methodLink RL 135 yX7_learned ∈ kn_ws := kn_in 964 (by decide +kernel) (by decide +kernel)
theorem wL_L_139 : Cond.methodLink RL 139 yX7_angle ∈ kn_ws := kn_in 968 (by decide +kernel) (by decide +kernel)
theorem wL_L_142 : Cond.methodLink RL 142 yX7_status ∈ kn_ws := kn_in 972 (by decide +kernel) (by decide +kernel)
theorem wL_L_146 : Cond.methodLink RL 146 yX7_unfairness ∈ kn_ws := kn_in 976 (by decide +kernel) (by decide +kernel)
theorem wL_L_150 : Cond.methodLink RL 150 yX7_rateBits ∈ kn_ws := kn_in 980 (by decide +kernel) (by decide +kernel)
theorem wL_X7_126 : Cond.methodLink RX7 126 yJxf58ca_floatToIntBits_5c35a ∈ kn_ws := kn_in 984 (by decide +kernel) (by decide +kernel)
theorem wL_Jxf58ca_59 : Cond.methodLink RJxf58ca 59 yJxf58ca_isNaN_12338 ∈ kn_ws := kn_in 987 (by decide +kernel) (by decide +kernel)
theorem wL_L_154 : Cond.methodLink RL 154 yX7_octane ∈ kn_ws := kn_in 994 (by decide +kernel) (by decide +kernel)
theorem wL_L_158 : Cond.methodLink RL 158 yX7_extreme ∈ kn_ws := kn_in 1000 (by decide +kernel) (by decide +kernel)
theorem wL_L_162 : Cond.methodLink RL 162 yX7_events ∈ kn_ws := kn_in 1004 (by decide +kernel) (by decide +kernel)
theorem wL_L_165 : Cond.methodLink RL 165 yX7_event ∈ kn_ws := kn_in 1008 (by decide +kernel) (by decide +kernel)
theorem wL_L_168 : Cond.methodLink RL 168 yX7_eventsOf ∈ kn_ws := kn_in 1012 (by decide +kernel) (by decide +kernel)
theorem wL_L_171 : Cond.methodLink RL 171 yX7_limit ∈ kn_ws := kn_in 1016 (by decide +kernel) (by decide +kernel)
theorem wL_L_174 : Cond.methodLink RL 174 yX7_quietAfter ∈ kn_ws := kn_in 1020 (by decide +kernel) (by decide +kernel)
theorem wL_X7_136 : Cond.methodLink RX7 136 yX7_laysAside ∈ kn_ws := kn_in 1024 (by decide +kernel) (by decide +kernel)
theorem wL_X7_139 : Cond.methodLink RX7 139 yX7_takesBack ∈ kn_ws := kn_in 1028 (by decide +kernel) (by decide +kernel)
theorem wL_L_177 : Cond.methodLink RL 177 yX7_lowestOctane ∈ kn_ws := kn_in 1032 (by decide +kernel) (by decide +kernel)
theorem wL_L_180 : Cond.methodLink RL 180 yX7_append ∈ kn_ws := kn_in 1036 (by decide +kernel) (by decide +kernel)
theorem wL_L_184 : Cond.methodLink RL 184 yX7_clearText ∈ kn_ws := kn_in 1040 (by decide +kernel) (by decide +kernel)
theorem wL_L_188 : Cond.methodLink RL 188 yX7_replay ∈ kn_ws := kn_in 1044 (by decide +kernel) (by decide +kernel)
theorem wL_X7_167 : Cond.methodLink RX7 167 yX7_readsFiring ∈ kn_ws := kn_in 1048 (by decide +kernel) (by decide +kernel)
theorem wL_X7_155 : Cond.methodLink RX7 155 yX7_reads ∈ kn_ws := kn_in 1052 (by decide +kernel) (by decide +kernel)
theorem wL_X7_151 : Cond.methodLink RX7 151 yX7_isDigit ∈ kn_ws := kn_in 1056 (by decide +kernel) (by decide +kernel)
theorem wL_L_197 : Cond.methodLink RL 197 yX7_digest ∈ kn_ws := kn_in 1060 (by decide +kernel) (by decide +kernel)
theorem wL_X7_176 : Cond.methodLink RX7 176 yX7_mix ∈ kn_ws := kn_in 1065 (by decide +kernel) (by decide +kernel)
theorem wL_X7_181 : Cond.methodLink RX7 181 yX7_mixAll ∈ kn_ws := kn_in 1070 (by decide +kernel) (by decide +kernel)
theorem wF_X4_13 : Cond.fieldLink RX4 13 "KnockControl$Row" "numbers" "[I" ∈ kn_ws := kn_in 78 (by decide +kernel) (by decide +kernel)
theorem wF_X3_14 : Cond.fieldLink RX3 14 "KnockControl$Log" "kinds" "LKnockControl$Row;" ∈ kn_ws := kn_in 91 (by decide +kernel) (by decide +kernel)
theorem wF_X3_20 : Cond.fieldLink RX3 20 "KnockControl$Log" "numbers" "LKnockControl$Row;" ∈ kn_ws := kn_in 92 (by decide +kernel) (by decide +kernel)
theorem wF_X3_23 : Cond.fieldLink RX3 23 "KnockControl$Log" "firings" "LKnockControl$Row;" ∈ kn_ws := kn_in 93 (by decide +kernel) (by decide +kernel)
theorem wF_X3_30 : Cond.fieldLink RX3 30 "KnockControl$Log" "oldest" "I" ∈ kn_ws := kn_in 94 (by decide +kernel) (by decide +kernel)
theorem wF_X3_26 : Cond.fieldLink RX3 26 "KnockControl$Log" "count" "I" ∈ kn_ws := kn_in 95 (by decide +kernel) (by decide +kernel)
theorem wNF_X5_42 : Cond.fieldLinkNest RX5 42 "KnockControl" "FIRST_SETTING" "[I" "KnockControl" ∈ kn_bad := kn_inb 107 (by decide +kernel) (by decide +kernel)
theorem wF_X5_14 : Cond.fieldLink RX5 14 "KnockControl$State" "settings" "LKnockControl$Row;" ∈ kn_ws := kn_in 126 (by decide +kernel) (by decide +kernel)
theorem wNF_X6_57 : Cond.fieldLinkNest RX6 57 "KnockControl$State" "settings" "LKnockControl$Row;" "KnockControl" ∈ kn_bad := kn_inb 127 (by decide +kernel) (by decide +kernel)
theorem wF_X5_20 : Cond.fieldLink RX5 20 "KnockControl$State" "fast" "LKnockControl$Row;" ∈ kn_ws := kn_in 128 (by decide +kernel) (by decide +kernel)
theorem wF_X5_23 : Cond.fieldLink RX5 23 "KnockControl$State" "level" "LKnockControl$Row;" ∈ kn_ws := kn_in 129 (by decide +kernel) (by decide +kernel)
theorem wF_X5_26 : Cond.fieldLink RX5 26 "KnockControl$State" "quiet" "LKnockControl$Row;" ∈ kn_ws := kn_in 130 (by decide +kernel) (by decide +kernel)
theorem wF_X5_29 : Cond.fieldLink RX5 29 "KnockControl$State" "knocks" "LKnockControl$Row;" ∈ kn_ws := kn_in 131 (by decide +kernel) (by decide +kernel)
theorem wF_X5_32 : Cond.fieldLink RX5 32 "KnockControl$State" "learned" "LKnockControl$Row;" ∈ kn_ws := kn_in 132 (by decide +kernel) (by decide +kernel)
theorem wNF_X6_80 : Cond.fieldLinkNest RX6 80 "KnockControl$State" "learned" "LKnockControl$Row;" "KnockControl" ∈ kn_bad := kn_inb 133 (by decide +kernel) (by decide +kernel)
theorem wF_X5_38 : Cond.fieldLink RX5 38 "KnockControl$State" "log" "LKnockControl$Log;" ∈ kn_ws := kn_in 134 (by decide +kernel) (by decide +kernel)
theorem wNF_X6_158 : Cond.fieldLinkNest RX6 158 "KnockControl$State" "log" "LKnockControl$Log;" "KnockControl" ∈ kn_bad := kn_inb 135 (by decide +kernel) (by decide +kernel)
theorem wF_X5_61 : Cond.fieldLink RX5 61 "KnockControl$State" "cylinders" "I" ∈ kn_ws := kn_in 136 (by decide +kernel) (by decide +kernel)
theorem wNF_X6_176 : Cond.fieldLinkNest RX6 176 "KnockControl$State" "cylinders" "I" "KnockControl" ∈ kn_bad := kn_inb 137 (by decide +kernel) (by decide +kernel)
theorem wF_X5_71 : Cond.fieldLink RX5 71 "KnockControl$State" "steady" "I" ∈ kn_ws := kn_in 138 (by decide +kernel) (by decide +kernel)
theorem wF_X5_74 : Cond.fieldLink RX5 74 "KnockControl$State" "latestCell" "I" ∈ kn_ws := kn_in 139 (by decide +kernel) (by decide +kernel)
theorem wF_X5_77 : Cond.fieldLink RX5 77 "KnockControl$State" "low" "I" ∈ kn_ws := kn_in 140 (by decide +kernel) (by decide +kernel)
theorem wF_X5_80 : Cond.fieldLink RX5 80 "KnockControl$State" "good" "I" ∈ kn_ws := kn_in 141 (by decide +kernel) (by decide +kernel)
theorem wF_X5_83 : Cond.fieldLink RX5 83 "KnockControl$State" "faulty" "Z" ∈ kn_ws := kn_in 142 (by decide +kernel) (by decide +kernel)
theorem wNF_X6_41 : Cond.fieldLinkNest RX6 41 "KnockControl$State" "firings" "I" "KnockControl" ∈ kn_bad := kn_inb 143 (by decide +kernel) (by decide +kernel)
theorem wF_X5_86 : Cond.fieldLink RX5 86 "KnockControl$State" "firings" "I" ∈ kn_ws := kn_in 144 (by decide +kernel) (by decide +kernel)
theorem wF_X5_89 : Cond.fieldLink RX5 89 "KnockControl$State" "next" "I" ∈ kn_ws := kn_in 145 (by decide +kernel) (by decide +kernel)
theorem wNF_X6_104 : Cond.fieldLinkNest RX6 104 "KnockControl$State" "next" "I" "KnockControl" ∈ kn_bad := kn_inb 146 (by decide +kernel) (by decide +kernel)
theorem wF_X5_50 : Cond.fieldLink RX5 50 "KnockControl$State" "s" "I" ∈ kn_ws := kn_in 147 (by decide +kernel) (by decide +kernel)
theorem wNF_X6_88 : Cond.fieldLinkNest RX6 88 "KnockControl$State" "s" "I" "KnockControl" ∈ kn_bad := kn_inb 148 (by decide +kernel) (by decide +kernel)
theorem wF_X5_54 : Cond.fieldLink RX5 54 "KnockControl$State" "broken" "Z" ∈ kn_ws := kn_in 149 (by decide +kernel) (by decide +kernel)
theorem wNF_X6_83 : Cond.fieldLinkNest RX6 83 "KnockControl$State" "broken" "Z" "KnockControl" ∈ kn_bad := kn_inb 150 (by decide +kernel) (by decide +kernel)
theorem wF_X2_11 : Cond.fieldLink RX2 11 "KnockControl$History" "states" "[LKnockControl$State;" ∈ kn_ws := kn_in 195 (by decide +kernel) (by decide +kernel)
theorem wF_X2_30 : Cond.fieldLink RX2 30 "KnockControl$History" "oldest" "I" ∈ kn_ws := kn_in 196 (by decide +kernel) (by decide +kernel)
theorem wF_X2_18 : Cond.fieldLink RX2 18 "KnockControl$History" "count" "I" ∈ kn_ws := kn_in 197 (by decide +kernel) (by decide +kernel)
theorem wF_X1_14 : Cond.fieldLink RX1 14 "KnockControl$FiringText" "bytes" "LKnockControl$Row;" ∈ kn_ws := kn_in 213 (by decide +kernel) (by decide +kernel)
theorem wF_X1_20 : Cond.fieldLink RX1 20 "KnockControl$FiringText" "numbers" "LKnockControl$Row;" ∈ kn_ws := kn_in 214 (by decide +kernel) (by decide +kernel)
theorem wF_X1_23 : Cond.fieldLink RX1 23 "KnockControl$FiringText" "length" "I" ∈ kn_ws := kn_in 215 (by decide +kernel) (by decide +kernel)
theorem wF_X1_31 : Cond.fieldLink RX1 31 "KnockControl$FiringText" "numbersRead" "I" ∈ kn_ws := kn_in 216 (by decide +kernel) (by decide +kernel)
theorem wF_X6_12 : Cond.fieldLink RX6 12 "KnockControl" "now" "LKnockControl$State;" ∈ kn_ws := kn_in 226 (by decide +kernel) (by decide +kernel)
theorem wF_X6_16 : Cond.fieldLink RX6 16 "KnockControl" "trial" "LKnockControl$State;" ∈ kn_ws := kn_in 227 (by decide +kernel) (by decide +kernel)
theorem wF_X6_22 : Cond.fieldLink RX6 22 "KnockControl" "history" "LKnockControl$History;" ∈ kn_ws := kn_in 228 (by decide +kernel) (by decide +kernel)
theorem wF_X6_29 : Cond.fieldLink RX6 29 "KnockControl" "text" "LKnockControl$FiringText;" ∈ kn_ws := kn_in 229 (by decide +kernel) (by decide +kernel)
theorem wF_X6_219 : Cond.fieldLink RX6 219 "KnockControl" "LEAST_SETTING" "[I" ∈ kn_ws := kn_in 539 (by decide +kernel) (by decide +kernel)
theorem wF_X6_223 : Cond.fieldLink RX6 223 "KnockControl" "MOST_SETTING" "[I" ∈ kn_ws := kn_in 541 (by decide +kernel) (by decide +kernel)
theorem wF_X7_7 : Cond.fieldLink RX7 7 "KnockControlModel" "now" "[I" ∈ kn_ws := kn_in 776 (by decide +kernel) (by decide +kernel)
theorem wF_X7_13 : Cond.fieldLink RX7 13 "KnockControlModel" "past" "[I" ∈ kn_ws := kn_in 777 (by decide +kernel) (by decide +kernel)
theorem wF_X7_16 : Cond.fieldLink RX7 16 "KnockControlModel" "aside" "[I" ∈ kn_ws := kn_in 778 (by decide +kernel) (by decide +kernel)
theorem wF_X7_31 : Cond.fieldLink RX7 31 "KnockControlModel" "saved" "I" ∈ kn_ws := kn_in 779 (by decide +kernel) (by decide +kernel)
theorem wF_X7_27 : Cond.fieldLink RX7 27 "KnockControlModel" "refusal" "I" ∈ kn_ws := kn_in 780 (by decide +kernel) (by decide +kernel)
theorem wF_X7_19 : Cond.fieldLink RX7 19 "KnockControlModel" "text" "[I" ∈ kn_ws := kn_in 781 (by decide +kernel) (by decide +kernel)
theorem wF_X7_142 : Cond.fieldLink RX7 142 "KnockControlModel" "length" "I" ∈ kn_ws := kn_in 782 (by decide +kernel) (by decide +kernel)
theorem wF_X7_145 : Cond.fieldLink RX7 145 "KnockControlModel" "spot" "I" ∈ kn_ws := kn_in 783 (by decide +kernel) (by decide +kernel)
theorem wF_X7_148 : Cond.fieldLink RX7 148 "KnockControlModel" "number" "I" ∈ kn_ws := kn_in 784 (by decide +kernel) (by decide +kernel)
theorem wF_X7_158 : Cond.fieldLink RX7 158 "KnockControlModel" "readSpeed" "I" ∈ kn_ws := kn_in 785 (by decide +kernel) (by decide +kernel)
theorem wF_X7_161 : Cond.fieldLink RX7 161 "KnockControlModel" "readLoad" "I" ∈ kn_ws := kn_in 786 (by decide +kernel) (by decide +kernel)
theorem wF_X7_164 : Cond.fieldLink RX7 164 "KnockControlModel" "readEnergy" "I" ∈ kn_ws := kn_in 787 (by decide +kernel) (by decide +kernel)
theorem wF_X7_172 : Cond.fieldLink RX7 172 "KnockControlModel" "hash" "J" ∈ kn_ws := kn_in 788 (by decide +kernel) (by decide +kernel)
theorem wK_X5_67 : Cond.constant RX5 67 (51200) ∈ kn_ws := kn_in 121 (by decide +kernel) (by decide +kernel)
theorem wK_X6_217 : Cond.constant RX6 217 (8388608) ∈ kn_ws := kn_in 304 (by decide +kernel) (by decide +kernel)
theorem wK_X6_209 : Cond.constantLong RX6 209 (2969) ∈ kn_ws := kn_in 422 (by decide +kernel) (by decide +kernel)
theorem wK_X6_215 : Cond.constantLong RX6 215 (31) ∈ kn_ws := kn_in 426 (by decide +kernel) (by decide +kernel)
theorem wK_X6_87 : Cond.constant RX6 87 (999999) ∈ kn_ws := kn_in 588 (by decide +kernel) (by decide +kernel)
theorem wK_X5_126 : Cond.constantLong RX5 126 (1103515245) ∈ kn_ws := kn_in 610 (by decide +kernel) (by decide +kernel)
theorem wK_X5_128 : Cond.constantLong RX5 128 (12345) ∈ kn_ws := kn_in 611 (by decide +kernel) (by decide +kernel)
theorem wK_X5_130 : Cond.constantLong RX5 130 (2147483648) ∈ kn_ws := kn_in 612 (by decide +kernel) (by decide +kernel)
theorem wK_X5_136 : Cond.constant RX5 136 (65536) ∈ kn_ws := kn_in 614 (by decide +kernel) (by decide +kernel)
theorem wK_X6_146 : Cond.constantDouble RX6 146 (4636737291354636288) ∈ kn_ws := kn_in 671 (by decide +kernel) (by decide +kernel)
theorem wK_X6_148 : Cond.constantDouble RX6 148 (4611686018427387904) ∈ kn_ws := kn_in 672 (by decide +kernel) (by decide +kernel)
theorem wK_X7_26 : Cond.constant RX7 26 (51200) ∈ kn_ws := kn_in 775 (by decide +kernel) (by decide +kernel)
theorem wK_X7_52 : Cond.constant RX7 52 (999999) ∈ kn_ws := kn_in 865 (by decide +kernel) (by decide +kernel)
theorem wK_X7_94 : Cond.constantLong RX7 94 (1103515245) ∈ kn_ws := kn_in 929 (by decide +kernel) (by decide +kernel)
theorem wK_X7_96 : Cond.constantLong RX7 96 (12345) ∈ kn_ws := kn_in 930 (by decide +kernel) (by decide +kernel)
theorem wK_X7_98 : Cond.constantLong RX7 98 (2147483648) ∈ kn_ws := kn_in 931 (by decide +kernel) (by decide +kernel)
theorem wK_X7_107 : Cond.constant RX7 107 (65536) ∈ kn_ws := kn_in 943 (by decide +kernel) (by decide +kernel)
theorem wK_Jxf58ca_77 : Cond.constant RJxf58ca 77 (2143289344) ∈ kn_ws := kn_in 993 (by decide +kernel) (by decide +kernel)
theorem wK_X7_132 : Cond.constantDouble RX7 132 (4636737291354636288) ∈ kn_ws := kn_in 998 (by decide +kernel) (by decide +kernel)
theorem wK_X7_134 : Cond.constantDouble RX7 134 (4611686018427387904) ∈ kn_ws := kn_in 999 (by decide +kernel) (by decide +kernel)
theorem wK_X7_179 : Cond.constantLong RX7 179 (2969) ∈ kn_ws := kn_in 1064 (by decide +kernel) (by decide +kernel)
theorem wK_X7_170 : Cond.constantLong RX7 170 (31) ∈ kn_ws := kn_in 1069 (by decide +kernel) (by decide +kernel)
theorem wC_L_8 : Cond.classLink RL 8 RX6 ∈ kn_ws := kn_in 55 (by decide +kernel) (by decide +kernel)
theorem wC_X6_9 : Cond.classLink RX6 9 RX5 ∈ kn_ws := kn_in 63 (by decide +kernel) (by decide +kernel)
theorem wC_X5_9 : Cond.classLink RX5 9 RX4 ∈ kn_ws := kn_in 69 (by decide +kernel) (by decide +kernel)
theorem wC_X5_35 : Cond.classLink RX5 35 RX3 ∈ kn_ws := kn_in 83 (by decide +kernel) (by decide +kernel)
theorem wC_X3_9 : Cond.classLink RX3 9 RX4 ∈ kn_ws := kn_in 89 (by decide +kernel) (by decide +kernel)
theorem wC_X6_19 : Cond.classLink RX6 19 RX2 ∈ kn_ws := kn_in 186 (by decide +kernel) (by decide +kernel)
theorem wC_X2_9 : Cond.classLink RX2 9 RX5 ∈ kn_ws := kn_in 192 (by decide +kernel) (by decide +kernel)
theorem wC_X6_26 : Cond.classLink RX6 26 RX1 ∈ kn_ws := kn_in 205 (by decide +kernel) (by decide +kernel)
theorem wC_X1_9 : Cond.classLink RX1 9 RX4 ∈ kn_ws := kn_in 211 (by decide +kernel) (by decide +kernel)
theorem wC_L_84 : Cond.classLink RL 84 RX7 ∈ kn_ws := kn_in 765 (by decide +kernel) (by decide +kernel)
theorem wN_L : Cond.initialized RL ∈ kn_ws := kn_in 38 (by decide +kernel) (by decide +kernel)
theorem wN_X6 : Cond.initialized RX6 ∈ kn_ws := kn_in 39 (by decide +kernel) (by decide +kernel)
theorem wN_X5 : Cond.initialized RX5 ∈ kn_ws := kn_in 40 (by decide +kernel) (by decide +kernel)
theorem wN_X4 : Cond.initialized RX4 ∈ kn_ws := kn_in 41 (by decide +kernel) (by decide +kernel)
theorem wN_J9 : Cond.initialized RJ9 ∈ kn_ws := kn_in 42 (by decide +kernel) (by decide +kernel)
theorem wN_X3 : Cond.initialized RX3 ∈ kn_ws := kn_in 43 (by decide +kernel) (by decide +kernel)
theorem wN_X2 : Cond.initialized RX2 ∈ kn_ws := kn_in 44 (by decide +kernel) (by decide +kernel)
theorem wN_X1 : Cond.initialized RX1 ∈ kn_ws := kn_in 45 (by decide +kernel) (by decide +kernel)
theorem wN_X7 : Cond.initialized RX7 ∈ kn_ws := kn_in 46 (by decide +kernel) (by decide +kernel)
theorem wN_X0 : Cond.initialized RX0 ∈ kn_ws := kn_in 52 (by decide +kernel) (by decide +kernel)
theorem wN_Jxf58ca : Cond.initialized RJxf58ca ∈ kn_ws := kn_in 53 (by decide +kernel) (by decide +kernel)
theorem wI_X6 : Cond.instantiable RX6 4 ∈ kn_ws := kn_in 56 (by decide +kernel) (by decide +kernel)
theorem wI_X5 : Cond.instantiable RX5 17 ∈ kn_ws := kn_in 64 (by decide +kernel) (by decide +kernel)
theorem wI_X4 : Cond.instantiable RX4 1 ∈ kn_ws := kn_in 70 (by decide +kernel) (by decide +kernel)
theorem wI_X3 : Cond.instantiable RX3 5 ∈ kn_ws := kn_in 84 (by decide +kernel) (by decide +kernel)
theorem wI_X2 : Cond.instantiable RX2 3 ∈ kn_ws := kn_in 187 (by decide +kernel) (by decide +kernel)
theorem wI_X1 : Cond.instantiable RX1 4 ∈ kn_ws := kn_in 206 (by decide +kernel) (by decide +kernel)
theorem wI_X7 : Cond.instantiable RX7 13 ∈ kn_ws := kn_in 766 (by decide +kernel) (by decide +kernel)
abbrev MX0_basicAdvance : kn_M := (yX0_basicAdvance, cX0_basicAdvance, 2, some .int, [], 0, 0)
theorem mm_X0_basicAdvance : kn_mS MX0_basicAdvance 2 := ⟨rfl, (kn_in 621 (by decide +kernel) (by decide +kernel)), ⟨(kn_in 620 (by decide +kernel) (by decide +kernel)), (kn_in 52 (by decide +kernel) (by decide +kernel))⟩, ⟨by decide, by decide, by decide +kernel⟩⟩
abbrev MX0_knockLimit : kn_M := (yX0_knockLimit, cX0_knockLimit, 3, some .int, [], 0, 0)
theorem mm_X0_knockLimit : kn_mS MX0_knockLimit 3 := ⟨rfl, (kn_in 628 (by decide +kernel) (by decide +kernel)), ⟨(kn_in 627 (by decide +kernel) (by decide +kernel)), (kn_in 52 (by decide +kernel) (by decide +kernel))⟩, ⟨by decide, by decide, by decide +kernel⟩⟩
abbrev MX1_size : kn_M := (yX1_size, cX1_size, 1, some .int, [], 0, 0)
theorem mm_X1_size : kn_mV MX1_size 0 0 := ⟨rfl, (kn_in 321 (by decide +kernel) (by decide +kernel)), ⟨(kn_in 319 (by decide +kernel) (by decide +kernel)), (kn_in 320 (by decide +kernel) (by decide +kernel)), (kn_in 45 (by decide +kernel) (by decide +kernel))⟩, ⟨by decide, by decide, by decide +kernel⟩, ⟨_, _, rfl⟩⟩
abbrev MX1_empty : kn_M := (yX1_empty, cX1_empty, 1, none, [], 0, 0)
theorem mm_X1_empty : kn_mV MX1_empty 0 0 := ⟨rfl, (kn_in 325 (by decide +kernel) (by decide +kernel)), ⟨(kn_in 323 (by decide +kernel) (by decide +kernel)), (kn_in 324 (by decide +kernel) (by decide +kernel)), (kn_in 45 (by decide +kernel) (by decide +kernel))⟩, ⟨by decide, by decide, by decide +kernel⟩, ⟨_, _, rfl⟩⟩
abbrev MX1_firingsRead : kn_M := (yX1_firingsRead, cX1_firingsRead, 1, some .int, [], 0, 0)
theorem mm_X1_firingsRead : kn_mV MX1_firingsRead 0 0 := ⟨rfl, (kn_in 347 (by decide +kernel) (by decide +kernel)), ⟨(kn_in 345 (by decide +kernel) (by decide +kernel)), (kn_in 346 (by decide +kernel) (by decide +kernel)), (kn_in 45 (by decide +kernel) (by decide +kernel))⟩, ⟨by decide, by decide, by decide +kernel⟩, ⟨_, _, rfl⟩⟩
abbrev MX1_separator : kn_M := (yX1_separator, cX1_separator, 2, some .char, [], 0, 0)
theorem mm_X1_separator : kn_mV MX1_separator 0 0 := ⟨rfl, (kn_in 338 (by decide +kernel) (by decide +kernel)), ⟨(kn_in 337 (by decide +kernel) (by decide +kernel)), (kn_in 1 (by decide +kernel) (by decide +kernel)), (kn_in 45 (by decide +kernel) (by decide +kernel))⟩, ⟨by decide, by decide, by decide +kernel⟩, ⟨_, _, rfl⟩⟩
abbrev MX2_size : kn_M := (yX2_size, cX2_size, 1, some .int, [], 0, 0)
theorem mm_X2_size : kn_mV MX2_size 0 1 := ⟨rfl, (kn_in 448 (by decide +kernel) (by decide +kernel)), ⟨(kn_in 446 (by decide +kernel) (by decide +kernel)), (kn_in 447 (by decide +kernel) (by decide +kernel)), (kn_in 44 (by decide +kernel) (by decide +kernel))⟩, ⟨by decide, by decide, by decide +kernel⟩, ⟨_, _, rfl⟩⟩
abbrev MX2_placeOf : kn_M := (yX2_placeOf, cX2_placeOf, 3, some (.object "KnockControl$State"), [], 0, 0)
theorem mm_X2_placeOf : kn_mV MX2_placeOf 1 1 := ⟨rfl, (kn_in 250 (by decide +kernel) (by decide +kernel)), ⟨(kn_in 249 (by decide +kernel) (by decide +kernel)), (kn_in 0 (by decide +kernel) (by decide +kernel)), (kn_in 44 (by decide +kernel) (by decide +kernel))⟩, ⟨by decide, by decide, by decide +kernel⟩, ⟨_, _, rfl⟩⟩
abbrev MX3_size : kn_M := (yX3_size, cX3_size, 1, some .int, [], 0, 0)
theorem mm_X3_size : kn_mV MX3_size 0 2 := ⟨rfl, (kn_in 313 (by decide +kernel) (by decide +kernel)), ⟨(kn_in 311 (by decide +kernel) (by decide +kernel)), (kn_in 312 (by decide +kernel) (by decide +kernel)), (kn_in 43 (by decide +kernel) (by decide +kernel))⟩, ⟨by decide, by decide, by decide +kernel⟩, ⟨_, _, rfl⟩⟩
abbrev MX3_empty : kn_M := (yX3_empty, cX3_empty, 1, none, [], 0, 0)
theorem mm_X3_empty : kn_mV MX3_empty 0 2 := ⟨rfl, (kn_in 125 (by decide +kernel) (by decide +kernel)), ⟨(kn_in 123 (by decide +kernel) (by decide +kernel)), (kn_in 124 (by decide +kernel) (by decide +kernel)), (kn_in 43 (by decide +kernel) (by decide +kernel))⟩, ⟨by decide, by decide, by decide +kernel⟩, ⟨_, _, rfl⟩⟩
abbrev MX3_placeOf : kn_M := (yX3_placeOf, cX3_placeOf, 2, some .int, [], 0, 0)
theorem mm_X3_placeOf : kn_mV MX3_placeOf 1 2 := ⟨rfl, (kn_in 380 (by decide +kernel) (by decide +kernel)), ⟨(kn_in 379 (by decide +kernel) (by decide +kernel)), (kn_in 4 (by decide +kernel) (by decide +kernel)), (kn_in 43 (by decide +kernel) (by decide +kernel))⟩, ⟨by decide, by decide, by decide +kernel⟩, ⟨_, _, rfl⟩⟩
abbrev MX4_at : kn_M := (yX4_at, cX4_at, 2, some .int, [], 0, 0)
theorem mm_X4_at : kn_mV MX4_at 1 3 := ⟨rfl, (kn_in 262 (by decide +kernel) (by decide +kernel)), ⟨(kn_in 260 (by decide +kernel) (by decide +kernel)), (kn_in 261 (by decide +kernel) (by decide +kernel)), (kn_in 41 (by decide +kernel) (by decide +kernel))⟩, ⟨by decide, by decide, by decide +kernel⟩, ⟨_, _, rfl⟩⟩
abbrev MX4_put : kn_M := (yX4_put, cX4_put, 3, none, [], 0, 0)
theorem mm_X4_put : kn_mV MX4_put 2 3 := ⟨rfl, (kn_in 112 (by decide +kernel) (by decide +kernel)), ⟨(kn_in 110 (by decide +kernel) (by decide +kernel)), (kn_in 111 (by decide +kernel) (by decide +kernel)), (kn_in 41 (by decide +kernel) (by decide +kernel))⟩, ⟨by decide, by decide, by decide +kernel⟩, ⟨_, _, rfl⟩⟩
abbrev MX4_raise : kn_M := (yX4_raise, cX4_raise, 3, none, [], 0, 0)
theorem mm_X4_raise : kn_mV MX4_raise 2 3 := ⟨rfl, (kn_in 397 (by decide +kernel) (by decide +kernel)), ⟨(kn_in 395 (by decide +kernel) (by decide +kernel)), (kn_in 396 (by decide +kernel) (by decide +kernel)), (kn_in 41 (by decide +kernel) (by decide +kernel))⟩, ⟨by decide, by decide, by decide +kernel⟩, ⟨_, _, rfl⟩⟩
abbrev MX4_fill : kn_M := (yX4_fill, cX4_fill, 3, none, [], 0, 0)
theorem mm_X4_fill : kn_mV MX4_fill 1 3 := ⟨rfl, (kn_in 120 (by decide +kernel) (by decide +kernel)), ⟨(kn_in 118 (by decide +kernel) (by decide +kernel)), (kn_in 119 (by decide +kernel) (by decide +kernel)), (kn_in 41 (by decide +kernel) (by decide +kernel))⟩, ⟨by decide, by decide, by decide +kernel⟩, ⟨_, _, rfl⟩⟩
abbrev MX5_aboutControl : kn_M := (yX5_aboutControl, cX5_aboutControl, 2, some .int, [], 0, 0)
theorem mm_X5_aboutControl : kn_mV MX5_aboutControl 1 4 := ⟨rfl, (kn_in 434 (by decide +kernel) (by decide +kernel)), ⟨(kn_in 432 (by decide +kernel) (by decide +kernel)), (kn_in 433 (by decide +kernel) (by decide +kernel)), (kn_in 40 (by decide +kernel) (by decide +kernel))⟩, ⟨by decide, by decide, by decide +kernel⟩, ⟨_, _, rfl⟩⟩
abbrev MX6_firings : kn_M := (yX6_firings, cX6_firings, 1, some .int, [], 0, 0)
theorem mm_X6_firings : kn_mV MX6_firings 0 5 := ⟨rfl, (kn_in 271 (by decide +kernel) (by decide +kernel)), ⟨(kn_in 269 (by decide +kernel) (by decide +kernel)), (kn_in 270 (by decide +kernel) (by decide +kernel)), (kn_in 39 (by decide +kernel) (by decide +kernel))⟩, ⟨by decide, by decide, by decide +kernel⟩, ⟨_, _, rfl⟩⟩
abbrev MX6_next : kn_M := (yX6_next, cX6_next, 1, some .int, [], 0, 0)
theorem mm_X6_next : kn_mV MX6_next 0 5 := ⟨rfl, (kn_in 275 (by decide +kernel) (by decide +kernel)), ⟨(kn_in 273 (by decide +kernel) (by decide +kernel)), (kn_in 274 (by decide +kernel) (by decide +kernel)), (kn_in 39 (by decide +kernel) (by decide +kernel))⟩, ⟨by decide, by decide, by decide +kernel⟩, ⟨_, _, rfl⟩⟩
abbrev MX6_mix : kn_M := (yX6_mix, cX6_mix, 4, some .long, [], 0, 0)
theorem mm_X6_mix : kn_mS MX6_mix 2 := ⟨rfl, (kn_in 425 (by decide +kernel) (by decide +kernel)), ⟨(kn_in 424 (by decide +kernel) (by decide +kernel)), (kn_in 39 (by decide +kernel) (by decide +kernel))⟩, ⟨by decide, by decide, by decide +kernel⟩⟩
abbrev MX6_bitsOfShare : kn_M := (yX6_bitsOfShare, cX6_bitsOfShare, 3, some .int, [], 0, 0)
theorem mm_X6_bitsOfShare : kn_mS MX6_bitsOfShare 1 := ⟨rfl, (kn_in 303 (by decide +kernel) (by decide +kernel)), ⟨(kn_in 302 (by decide +kernel) (by decide +kernel)), (kn_in 39 (by decide +kernel) (by decide +kernel))⟩, ⟨by decide, by decide, by decide +kernel⟩⟩
abbrev MX6_within : kn_M := (yX6_within, cX6_within, 3, some .boolean, [], 0, 0)
theorem mm_X6_within : kn_mS MX6_within 3 := ⟨rfl, (kn_in 360 (by decide +kernel) (by decide +kernel)), ⟨(kn_in 359 (by decide +kernel) (by decide +kernel)), (kn_in 39 (by decide +kernel) (by decide +kernel))⟩, ⟨by decide, by decide, by decide +kernel⟩⟩
abbrev MX7_begins : kn_M := (yX7_begins, cX7_begins, 3, none, [], 0, 0)
theorem mm_X7_begins : kn_mV MX7_begins 1 6 := ⟨rfl, (kn_in 774 (by decide +kernel) (by decide +kernel)), ⟨(kn_in 773 (by decide +kernel) (by decide +kernel)), (kn_in 14 (by decide +kernel) (by decide +kernel)), (kn_in 46 (by decide +kernel) (by decide +kernel))⟩, ⟨by decide, by decide, by decide +kernel⟩, ⟨_, _, rfl⟩⟩
abbrev MX7_thrown : kn_M := (yX7_thrown, cX7_thrown, 1, some .int, [], 0, 0)
theorem mm_X7_thrown : kn_mV MX7_thrown 0 6 := ⟨rfl, (kn_in 819 (by decide +kernel) (by decide +kernel)), ⟨(kn_in 817 (by decide +kernel) (by decide +kernel)), (kn_in 818 (by decide +kernel) (by decide +kernel)), (kn_in 46 (by decide +kernel) (by decide +kernel))⟩, ⟨by decide, by decide, by decide +kernel⟩, ⟨_, _, rfl⟩⟩
abbrev MX7_refused : kn_M := (yX7_refused, cX7_refused, 2, some .boolean, [], 0, 0)
theorem mm_X7_refused : kn_mV MX7_refused 1 6 := ⟨rfl, (kn_in 827 (by decide +kernel) (by decide +kernel)), ⟨(kn_in 826 (by decide +kernel) (by decide +kernel)), (kn_in 15 (by decide +kernel) (by decide +kernel)), (kn_in 46 (by decide +kernel) (by decide +kernel))⟩, ⟨by decide, by decide, by decide +kernel⟩, ⟨_, _, rfl⟩⟩
abbrev MX7_within : kn_M := (yX7_within, cX7_within, 3, some .boolean, [], 0, 0)
theorem mm_X7_within : kn_mS MX7_within 3 := ⟨rfl, (kn_in 834 (by decide +kernel) (by decide +kernel)), ⟨(kn_in 833 (by decide +kernel) (by decide +kernel)), (kn_in 46 (by decide +kernel) (by decide +kernel))⟩, ⟨by decide, by decide, by decide +kernel⟩⟩
abbrev MX7_floor : kn_M := (yX7_floor, cX7_floor, 3, some .int, [], 0, 0)
theorem mm_X7_floor : kn_mS MX7_floor 2 := ⟨rfl, (kn_in 905 (by decide +kernel) (by decide +kernel)), ⟨(kn_in 904 (by decide +kernel) (by decide +kernel)), (kn_in 46 (by decide +kernel) (by decide +kernel))⟩, ⟨by decide, by decide, by decide +kernel⟩⟩
abbrev MX7_lesser : kn_M := (yX7_lesser, cX7_lesser, 2, some .int, [], 0, 0)
theorem mm_X7_lesser : kn_mS MX7_lesser 2 := ⟨rfl, (kn_in 882 (by decide +kernel) (by decide +kernel)), ⟨(kn_in 881 (by decide +kernel) (by decide +kernel)), (kn_in 46 (by decide +kernel) (by decide +kernel))⟩, ⟨by decide, by decide, by decide +kernel⟩⟩
abbrev MX7_saves : kn_M := (yX7_saves, cX7_saves, 2, none, [], 0, 0)
theorem mm_X7_saves : kn_mV MX7_saves 0 6 := ⟨rfl, (kn_in 838 (by decide +kernel) (by decide +kernel)), ⟨(kn_in 837 (by decide +kernel) (by decide +kernel)), (kn_in 16 (by decide +kernel) (by decide +kernel)), (kn_in 46 (by decide +kernel) (by decide +kernel))⟩, ⟨by decide, by decide, by decide +kernel⟩, ⟨_, _, rfl⟩⟩
abbrev MX7_laysAside : kn_M := (yX7_laysAside, cX7_laysAside, 2, none, [], 0, 0)
theorem mm_X7_laysAside : kn_mV MX7_laysAside 0 6 := ⟨rfl, (kn_in 1027 (by decide +kernel) (by decide +kernel)), ⟨(kn_in 1026 (by decide +kernel) (by decide +kernel)), (kn_in 31 (by decide +kernel) (by decide +kernel)), (kn_in 46 (by decide +kernel) (by decide +kernel))⟩, ⟨by decide, by decide, by decide +kernel⟩, ⟨_, _, rfl⟩⟩
abbrev MX7_takesBack : kn_M := (yX7_takesBack, cX7_takesBack, 2, none, [], 0, 0)
theorem mm_X7_takesBack : kn_mV MX7_takesBack 0 6 := ⟨rfl, (kn_in 1031 (by decide +kernel) (by decide +kernel)), ⟨(kn_in 1030 (by decide +kernel) (by decide +kernel)), (kn_in 32 (by decide +kernel) (by decide +kernel)), (kn_in 46 (by decide +kernel) (by decide +kernel))⟩, ⟨by decide, by decide, by decide +kernel⟩, ⟨_, _, rfl⟩⟩
abbrev MX7_threshold : kn_M := (yX7_threshold, cX7_threshold, 2, some .int, [], 0, 0)
theorem mm_X7_threshold : kn_mV MX7_threshold 1 6 := ⟨rfl, (kn_in 894 (by decide +kernel) (by decide +kernel)), ⟨(kn_in 893 (by decide +kernel) (by decide +kernel)), (kn_in 20 (by decide +kernel) (by decide +kernel)), (kn_in 46 (by decide +kernel) (by decide +kernel))⟩, ⟨by decide, by decide, by decide +kernel⟩, ⟨_, _, rfl⟩⟩
abbrev MX7_logs : kn_M := (yX7_logs, cX7_logs, 4, none, [], 0, 0)
theorem mm_X7_logs : kn_mV MX7_logs 2 6 := ⟨rfl, (kn_in 890 (by decide +kernel) (by decide +kernel)), ⟨(kn_in 889 (by decide +kernel) (by decide +kernel)), (kn_in 19 (by decide +kernel) (by decide +kernel)), (kn_in 46 (by decide +kernel) (by decide +kernel))⟩, ⟨by decide, by decide, by decide +kernel⟩, ⟨_, _, rfl⟩⟩
abbrev MX7_greatest : kn_M := (yX7_greatest, cX7_greatest, 3, some .int, [], 0, 0)
theorem mm_X7_greatest : kn_mV MX7_greatest 0 6 := ⟨rfl, (kn_in 913 (by decide +kernel) (by decide +kernel)), ⟨(kn_in 912 (by decide +kernel) (by decide +kernel)), (kn_in 24 (by decide +kernel) (by decide +kernel)), (kn_in 46 (by decide +kernel) (by decide +kernel))⟩, ⟨by decide, by decide, by decide +kernel⟩, ⟨_, _, rfl⟩⟩
abbrev MX7_knockLimit : kn_M := (yX7_knockLimit, cX7_knockLimit, 3, some .int, [], 0, 0)
theorem mm_X7_knockLimit : kn_mS MX7_knockLimit 3 := ⟨rfl, (kn_in 942 (by decide +kernel) (by decide +kernel)), ⟨(kn_in 941 (by decide +kernel) (by decide +kernel)), (kn_in 46 (by decide +kernel) (by decide +kernel))⟩, ⟨by decide, by decide, by decide +kernel⟩⟩
abbrev MX7_firings : kn_M := (yX7_firings, cX7_firings, 1, some .int, [], 0, 0)
theorem mm_X7_firings : kn_mV MX7_firings 0 6 := ⟨rfl, (kn_in 947 (by decide +kernel) (by decide +kernel)), ⟨(kn_in 945 (by decide +kernel) (by decide +kernel)), (kn_in 946 (by decide +kernel) (by decide +kernel)), (kn_in 46 (by decide +kernel) (by decide +kernel))⟩, ⟨by decide, by decide, by decide +kernel⟩, ⟨_, _, rfl⟩⟩
abbrev MX7_next : kn_M := (yX7_next, cX7_next, 1, some .int, [], 0, 0)
theorem mm_X7_next : kn_mV MX7_next 0 6 := ⟨rfl, (kn_in 951 (by decide +kernel) (by decide +kernel)), ⟨(kn_in 949 (by decide +kernel) (by decide +kernel)), (kn_in 950 (by decide +kernel) (by decide +kernel)), (kn_in 46 (by decide +kernel) (by decide +kernel))⟩, ⟨by decide, by decide, by decide +kernel⟩, ⟨_, _, rfl⟩⟩
abbrev MX7_events : kn_M := (yX7_events, cX7_events, 1, some .int, [], 0, 0)
theorem mm_X7_events : kn_mV MX7_events 0 6 := ⟨rfl, (kn_in 1007 (by decide +kernel) (by decide +kernel)), ⟨(kn_in 1005 (by decide +kernel) (by decide +kernel)), (kn_in 1006 (by decide +kernel) (by decide +kernel)), (kn_in 46 (by decide +kernel) (by decide +kernel))⟩, ⟨by decide, by decide, by decide +kernel⟩, ⟨_, _, rfl⟩⟩
abbrev MX7_clearText : kn_M := (yX7_clearText, cX7_clearText, 2, some .int, [], 0, 0)
theorem mm_X7_clearText : kn_mV MX7_clearText 0 6 := ⟨rfl, (kn_in 1043 (by decide +kernel) (by decide +kernel)), ⟨(kn_in 1041 (by decide +kernel) (by decide +kernel)), (kn_in 1042 (by decide +kernel) (by decide +kernel)), (kn_in 46 (by decide +kernel) (by decide +kernel))⟩, ⟨by decide, by decide, by decide +kernel⟩, ⟨_, _, rfl⟩⟩
abbrev MX7_mix : kn_M := (yX7_mix, cX7_mix, 2, none, [], 0, 0)
theorem mm_X7_mix : kn_mV MX7_mix 1 6 := ⟨rfl, (kn_in 1068 (by decide +kernel) (by decide +kernel)), ⟨(kn_in 1067 (by decide +kernel) (by decide +kernel)), (kn_in 36 (by decide +kernel) (by decide +kernel)), (kn_in 46 (by decide +kernel) (by decide +kernel))⟩, ⟨by decide, by decide, by decide +kernel⟩, ⟨_, _, rfl⟩⟩
abbrev MJxf58ca_isNaN_12338 : kn_M := (yJxf58ca_isNaN_12338, cJxf58ca_isNaN_12338, 1, some .boolean, [], 0, 0)
theorem mm_Jxf58ca_isNaN_12338 : kn_mS MJxf58ca_isNaN_12338 1 := ⟨rfl, (kn_in 989 (by decide +kernel) (by decide +kernel)), ⟨(kn_in 988 (by decide +kernel) (by decide +kernel)), (kn_in 53 (by decide +kernel) (by decide +kernel))⟩, ⟨by decide, by decide, by decide +kernel⟩⟩
abbrev MJ9_floorDiv_7cf53 : kn_M := (yJ9_floorDiv_7cf53, cJ9_floorDiv_7cf53, 3, some .int, [], 0, 0)
theorem mm_J9_floorDiv_7cf53 : kn_mS MJ9_floorDiv_7cf53 2 := ⟨rfl, (kn_in 400 (by decide +kernel) (by decide +kernel)), ⟨(kn_in 399 (by decide +kernel) (by decide +kernel)), (kn_in 42 (by decide +kernel) (by decide +kernel))⟩, ⟨by decide, by decide, by decide +kernel⟩⟩
abbrev MJ9_max_7cf53 : kn_M := (yJ9_max_7cf53, cJ9_max_7cf53, 2, some .int, [], 0, 0)
theorem mm_J9_max_7cf53 : kn_mS MJ9_max_7cf53 2 := ⟨rfl, (kn_in 77 (by decide +kernel) (by decide +kernel)), ⟨(kn_in 76 (by decide +kernel) (by decide +kernel)), (kn_in 42 (by decide +kernel) (by decide +kernel))⟩, ⟨by decide, by decide, by decide +kernel⟩⟩
abbrev MJ9_min_7cf53 : kn_M := (yJ9_min_7cf53, cJ9_min_7cf53, 2, some .int, [], 0, 0)
theorem mm_J9_min_7cf53 : kn_mS MJ9_min_7cf53 2 := ⟨rfl, (kn_in 292 (by decide +kernel) (by decide +kernel)), ⟨(kn_in 291 (by decide +kernel) (by decide +kernel)), (kn_in 42 (by decide +kernel) (by decide +kernel))⟩, ⟨by decide, by decide, by decide +kernel⟩⟩
abbrev MX0_cellOf : kn_M := (yX0_cellOf, cX0_cellOf, 4, some .int, [], 1, 21)
theorem mm_X0_cellOf : kn_mS MX0_cellOf 2 := ⟨rfl, (kn_in 367 (by decide +kernel) (by decide +kernel)), ⟨(kn_in 366 (by decide +kernel) (by decide +kernel)), (kn_in 52 (by decide +kernel) (by decide +kernel))⟩, ⟨by decide, by decide, by decide +kernel⟩⟩
abbrev MX1_add : kn_M := (yX1_add, cX1_add, 2, none, [], 1, 22)
theorem mm_X1_add : kn_mV MX1_add 1 0 := ⟨rfl, (kn_in 753 (by decide +kernel) (by decide +kernel)), ⟨(kn_in 751 (by decide +kernel) (by decide +kernel)), (kn_in 752 (by decide +kernel) (by decide +kernel)), (kn_in 45 (by decide +kernel) (by decide +kernel))⟩, ⟨by decide, by decide, by decide +kernel⟩, ⟨_, _, rfl⟩⟩
abbrev MX1_read : kn_M := (yX1_read, cX1_read, 5, some .int, [], 1, 22)
theorem mm_X1_read : kn_mV MX1_read 0 0 := ⟨rfl, (kn_in 333 (by decide +kernel) (by decide +kernel)), ⟨(kn_in 331 (by decide +kernel) (by decide +kernel)), (kn_in 332 (by decide +kernel) (by decide +kernel)), (kn_in 45 (by decide +kernel) (by decide +kernel))⟩, ⟨by decide, by decide, by decide +kernel⟩, ⟨_, _, rfl⟩⟩
abbrev MX1_number : kn_M := (yX1_number, cX1_number, 3, some .int, [], 1, 21)
theorem mm_X1_number : kn_mV MX1_number 2 0 := ⟨rfl, (kn_in 351 (by decide +kernel) (by decide +kernel)), ⟨(kn_in 349 (by decide +kernel) (by decide +kernel)), (kn_in 350 (by decide +kernel) (by decide +kernel)), (kn_in 45 (by decide +kernel) (by decide +kernel))⟩, ⟨by decide, by decide, by decide +kernel⟩, ⟨_, _, rfl⟩⟩
abbrev MX3_note : kn_M := (yX3_note, cX3_note, 5, none, [], 1, 22)
theorem mm_X3_note : kn_mV MX3_note 3 2 := ⟨rfl, (kn_in 376 (by decide +kernel) (by decide +kernel)), ⟨(kn_in 374 (by decide +kernel) (by decide +kernel)), (kn_in 375 (by decide +kernel) (by decide +kernel)), (kn_in 43 (by decide +kernel) (by decide +kernel))⟩, ⟨by decide, by decide, by decide +kernel⟩, ⟨_, _, rfl⟩⟩
abbrev MX3_about : kn_M := (yX3_about, cX3_about, 4, some .int, [], 1, 21)
theorem mm_X3_about : kn_mV MX3_about 2 2 := ⟨rfl, (kn_in 443 (by decide +kernel) (by decide +kernel)), ⟨(kn_in 441 (by decide +kernel) (by decide +kernel)), (kn_in 442 (by decide +kernel) (by decide +kernel)), (kn_in 43 (by decide +kernel) (by decide +kernel))⟩, ⟨by decide, by decide, by decide +kernel⟩, ⟨_, _, rfl⟩⟩
abbrev MX4_init : kn_M := (yX4_init, cX4_init, 2, none, [], 1, 40)
theorem mm_X4_init : kn_mI MX4_init 1 := ⟨rfl, (kn_in 73 (by decide +kernel) (by decide +kernel)), ⟨(kn_in 72 (by decide +kernel) (by decide +kernel)), (kn_in 41 (by decide +kernel) (by decide +kernel)), rfl, rfl⟩, ⟨by decide, by decide, by decide +kernel⟩⟩
abbrev MX4_copy : kn_M := (yX4_copy, cX4_copy, 3, none, [], 1, 21)
theorem mm_X4_copy : kn_mV MX4_copy 1 3 := ⟨rfl, (kn_in 258 (by decide +kernel) (by decide +kernel)), ⟨(kn_in 256 (by decide +kernel) (by decide +kernel)), (kn_in 257 (by decide +kernel) (by decide +kernel)), (kn_in 41 (by decide +kernel) (by decide +kernel))⟩, ⟨by decide, by decide, by decide +kernel⟩, ⟨_, _, rfl⟩⟩
abbrev MX5_restart : kn_M := (yX5_restart, cX5_restart, 2, none, [], 1, 22)
theorem mm_X5_restart : kn_mV MX5_restart 1 4 := ⟨rfl, (kn_in 116 (by decide +kernel) (by decide +kernel)), ⟨(kn_in 114 (by decide +kernel) (by decide +kernel)), (kn_in 115 (by decide +kernel) (by decide +kernel)), (kn_in 40 (by decide +kernel) (by decide +kernel))⟩, ⟨by decide, by decide, by decide +kernel⟩, ⟨_, _, rfl⟩⟩
abbrev MX5_settingOrCylinders : kn_M := (yX5_settingOrCylinders, cX5_settingOrCylinders, 2, some .int, [], 1, 21)
theorem mm_X5_settingOrCylinders : kn_mV MX5_settingOrCylinders 1 4 := ⟨rfl, (kn_in 430 (by decide +kernel) (by decide +kernel)), ⟨(kn_in 428 (by decide +kernel) (by decide +kernel)), (kn_in 429 (by decide +kernel) (by decide +kernel)), (kn_in 40 (by decide +kernel) (by decide +kernel))⟩, ⟨by decide, by decide, by decide +kernel⟩, ⟨_, _, rfl⟩⟩
abbrev MX5_thresholdOf : kn_M := (yX5_thresholdOf, cX5_thresholdOf, 2, some .int, [], 1, 21)
theorem mm_X5_thresholdOf : kn_mV MX5_thresholdOf 1 4 := ⟨rfl, (kn_in 389 (by decide +kernel) (by decide +kernel)), ⟨(kn_in 387 (by decide +kernel) (by decide +kernel)), (kn_in 388 (by decide +kernel) (by decide +kernel)), (kn_in 40 (by decide +kernel) (by decide +kernel))⟩, ⟨by decide, by decide, by decide +kernel⟩, ⟨_, _, rfl⟩⟩
abbrev MX5_retardOf : kn_M := (yX5_retardOf, cX5_retardOf, 4, some .int, [], 1, 21)
theorem mm_X5_retardOf : kn_mV MX5_retardOf 2 4 := ⟨rfl, (kn_in 625 (by decide +kernel) (by decide +kernel)), ⟨(kn_in 623 (by decide +kernel) (by decide +kernel)), (kn_in 624 (by decide +kernel) (by decide +kernel)), (kn_in 40 (by decide +kernel) (by decide +kernel))⟩, ⟨by decide, by decide, by decide +kernel⟩, ⟨_, _, rfl⟩⟩
abbrev MX5_greatestFast : kn_M := (yX5_greatestFast, cX5_greatestFast, 3, some .int, [], 1, 21)
theorem mm_X5_greatestFast : kn_mV MX5_greatestFast 0 4 := ⟨rfl, (kn_in 283 (by decide +kernel) (by decide +kernel)), ⟨(kn_in 281 (by decide +kernel) (by decide +kernel)), (kn_in 282 (by decide +kernel) (by decide +kernel)), (kn_in 40 (by decide +kernel) (by decide +kernel))⟩, ⟨by decide, by decide, by decide +kernel⟩, ⟨_, _, rfl⟩⟩
abbrev MX5_smallestFast : kn_M := (yX5_smallestFast, cX5_smallestFast, 3, some .int, [], 1, 21)
theorem mm_X5_smallestFast : kn_mV MX5_smallestFast 0 4 := ⟨rfl, (kn_in 289 (by decide +kernel) (by decide +kernel)), ⟨(kn_in 287 (by decide +kernel) (by decide +kernel)), (kn_in 288 (by decide +kernel) (by decide +kernel)), (kn_in 40 (by decide +kernel) (by decide +kernel))⟩, ⟨by decide, by decide, by decide +kernel⟩, ⟨_, _, rfl⟩⟩
abbrev MX5_allKnocks : kn_M := (yX5_allKnocks, cX5_allKnocks, 3, some .int, [], 1, 21)
theorem mm_X5_allKnocks : kn_mV MX5_allKnocks 0 4 := ⟨rfl, (kn_in 300 (by decide +kernel) (by decide +kernel)), ⟨(kn_in 298 (by decide +kernel) (by decide +kernel)), (kn_in 299 (by decide +kernel) (by decide +kernel)), (kn_in 40 (by decide +kernel) (by decide +kernel))⟩, ⟨by decide, by decide, by decide +kernel⟩, ⟨_, _, rfl⟩⟩
abbrev MX5_retardFast : kn_M := (yX5_retardFast, cX5_retardFast, 9, none, [], 1, 22)
theorem mm_X5_retardFast : kn_mV MX5_retardFast 4 4 := ⟨rfl, (kn_in 393 (by decide +kernel) (by decide +kernel)), ⟨(kn_in 392 (by decide +kernel) (by decide +kernel)), (kn_in 6 (by decide +kernel) (by decide +kernel)), (kn_in 40 (by decide +kernel) (by decide +kernel))⟩, ⟨by decide, by decide, by decide +kernel⟩, ⟨_, _, rfl⟩⟩
abbrev MX5_lowerFast : kn_M := (yX5_lowerFast, cX5_lowerFast, 2, none, [], 1, 22)
theorem mm_X5_lowerFast : kn_mV MX5_lowerFast 1 4 := ⟨rfl, (kn_in 404 (by decide +kernel) (by decide +kernel)), ⟨(kn_in 403 (by decide +kernel) (by decide +kernel)), (kn_in 7 (by decide +kernel) (by decide +kernel)), (kn_in 40 (by decide +kernel) (by decide +kernel))⟩, ⟨by decide, by decide, by decide +kernel⟩, ⟨_, _, rfl⟩⟩
abbrev MX5_sumOfFast : kn_M := (yX5_sumOfFast, cX5_sumOfFast, 3, some .int, [], 1, 21)
theorem mm_X5_sumOfFast : kn_mV MX5_sumOfFast 0 4 := ⟨rfl, (kn_in 417 (by decide +kernel) (by decide +kernel)), ⟨(kn_in 416 (by decide +kernel) (by decide +kernel)), (kn_in 10 (by decide +kernel) (by decide +kernel)), (kn_in 40 (by decide +kernel) (by decide +kernel))⟩, ⟨by decide, by decide, by decide +kernel⟩, ⟨_, _, rfl⟩⟩
abbrev MX6_events : kn_M := (yX6_events, cX6_events, 1, some .int, [], 1, 20)
theorem mm_X6_events : kn_mV MX6_events 0 5 := ⟨rfl, (kn_in 309 (by decide +kernel) (by decide +kernel)), ⟨(kn_in 307 (by decide +kernel) (by decide +kernel)), (kn_in 308 (by decide +kernel) (by decide +kernel)), (kn_in 39 (by decide +kernel) (by decide +kernel))⟩, ⟨by decide, by decide, by decide +kernel⟩, ⟨_, _, rfl⟩⟩
abbrev MX6_clearText : kn_M := (yX6_clearText, cX6_clearText, 2, some .int, [], 1, 20)
theorem mm_X6_clearText : kn_mV MX6_clearText 0 5 := ⟨rfl, (kn_in 317 (by decide +kernel) (by decide +kernel)), ⟨(kn_in 315 (by decide +kernel) (by decide +kernel)), (kn_in 316 (by decide +kernel) (by decide +kernel)), (kn_in 39 (by decide +kernel) (by decide +kernel))⟩, ⟨by decide, by decide, by decide +kernel⟩, ⟨_, _, rfl⟩⟩
abbrev MX6_isSetting : kn_M := (yX6_isSetting, cX6_isSetting, 2, some .boolean, [], 1, 22)
theorem mm_X6_isSetting : kn_mS MX6_isSetting 2 := ⟨rfl, (kn_in 538 (by decide +kernel) (by decide +kernel)), ⟨(kn_in 537 (by decide +kernel) (by decide +kernel)), (kn_in 39 (by decide +kernel) (by decide +kernel))⟩, ⟨by decide, by decide, by decide +kernel⟩⟩
abbrev MX6_isCell : kn_M := (yX6_isCell, cX6_isCell, 2, some .boolean, [], 1, 22)
theorem mm_X6_isCell : kn_mS MX6_isCell 2 := ⟨rfl, (kn_in 561 (by decide +kernel) (by decide +kernel)), ⟨(kn_in 560 (by decide +kernel) (by decide +kernel)), (kn_in 39 (by decide +kernel) (by decide +kernel))⟩, ⟨by decide, by decide, by decide +kernel⟩⟩
abbrev MX6_isOperation : kn_M := (yX6_isOperation, cX6_isOperation, 2, some .boolean, [], 1, 22)
theorem mm_X6_isOperation : kn_mS MX6_isOperation 2 := ⟨rfl, (kn_in 357 (by decide +kernel) (by decide +kernel)), ⟨(kn_in 356 (by decide +kernel) (by decide +kernel)), (kn_in 39 (by decide +kernel) (by decide +kernel))⟩, ⟨by decide, by decide, by decide +kernel⟩⟩
abbrev MX6_isCylinder : kn_M := (yX6_isCylinder, cX6_isCylinder, 2, some .boolean, [], 1, 22)
theorem mm_X6_isCylinder : kn_mV MX6_isCylinder 1 5 := ⟨rfl, (kn_in 639 (by decide +kernel) (by decide +kernel)), ⟨(kn_in 638 (by decide +kernel) (by decide +kernel)), (kn_in 12 (by decide +kernel) (by decide +kernel)), (kn_in 39 (by decide +kernel) (by decide +kernel))⟩, ⟨by decide, by decide, by decide +kernel⟩, ⟨_, _, rfl⟩⟩
abbrev MX7_init : kn_M := (yX7_init, cX7_init, 1, none, [], 1, 40)
theorem mm_X7_init : kn_mI MX7_init 0 := ⟨rfl, (kn_in 769 (by decide +kernel) (by decide +kernel)), ⟨(kn_in 768 (by decide +kernel) (by decide +kernel)), (kn_in 46 (by decide +kernel) (by decide +kernel)), rfl, rfl⟩, ⟨by decide, by decide, by decide +kernel⟩⟩
abbrev MX7_undo : kn_M := (yX7_undo, cX7_undo, 2, some .int, [], 1, 21)
theorem mm_X7_undo : kn_mV MX7_undo 0 6 := ⟨rfl, (kn_in 823 (by decide +kernel) (by decide +kernel)), ⟨(kn_in 821 (by decide +kernel) (by decide +kernel)), (kn_in 822 (by decide +kernel) (by decide +kernel)), (kn_in 46 (by decide +kernel) (by decide +kernel))⟩, ⟨by decide, by decide, by decide +kernel⟩, ⟨_, _, rfl⟩⟩
abbrev MX7_begin : kn_M := (yX7_begin, cX7_begin, 3, some .int, [], 1, 22)
theorem mm_X7_begin : kn_mV MX7_begin 1 6 := ⟨rfl, (kn_in 831 (by decide +kernel) (by decide +kernel)), ⟨(kn_in 829 (by decide +kernel) (by decide +kernel)), (kn_in 830 (by decide +kernel) (by decide +kernel)), (kn_in 46 (by decide +kernel) (by decide +kernel))⟩, ⟨by decide, by decide, by decide +kernel⟩, ⟨_, _, rfl⟩⟩
abbrev MX7_isSetting : kn_M := (yX7_isSetting, cX7_isSetting, 2, some .boolean, [], 1, 22)
theorem mm_X7_isSetting : kn_mS MX7_isSetting 2 := ⟨rfl, (kn_in 845 (by decide +kernel) (by decide +kernel)), ⟨(kn_in 844 (by decide +kernel) (by decide +kernel)), (kn_in 46 (by decide +kernel) (by decide +kernel))⟩, ⟨by decide, by decide, by decide +kernel⟩⟩
abbrev MX7_value : kn_M := (yX7_value, cX7_value, 2, some .int, [], 1, 22)
theorem mm_X7_value : kn_mV MX7_value 1 6 := ⟨rfl, (kn_in 849 (by decide +kernel) (by decide +kernel)), ⟨(kn_in 847 (by decide +kernel) (by decide +kernel)), (kn_in 848 (by decide +kernel) (by decide +kernel)), (kn_in 46 (by decide +kernel) (by decide +kernel))⟩, ⟨by decide, by decide, by decide +kernel⟩, ⟨_, _, rfl⟩⟩
abbrev MX7_isCell : kn_M := (yX7_isCell, cX7_isCell, 2, some .boolean, [], 1, 22)
theorem mm_X7_isCell : kn_mS MX7_isCell 2 := ⟨rfl, (kn_in 856 (by decide +kernel) (by decide +kernel)), ⟨(kn_in 855 (by decide +kernel) (by decide +kernel)), (kn_in 46 (by decide +kernel) (by decide +kernel))⟩, ⟨by decide, by decide, by decide +kernel⟩⟩
abbrev MX7_breakSensor : kn_M := (yX7_breakSensor, cX7_breakSensor, 3, some .boolean, [], 1, 21)
theorem mm_X7_breakSensor : kn_mV MX7_breakSensor 1 6 := ⟨rfl, (kn_in 860 (by decide +kernel) (by decide +kernel)), ⟨(kn_in 858 (by decide +kernel) (by decide +kernel)), (kn_in 859 (by decide +kernel) (by decide +kernel)), (kn_in 46 (by decide +kernel) (by decide +kernel))⟩, ⟨by decide, by decide, by decide +kernel⟩, ⟨_, _, rfl⟩⟩
abbrev MX7_seed : kn_M := (yX7_seed, cX7_seed, 3, some .int, [], 1, 22)
theorem mm_X7_seed : kn_mV MX7_seed 1 6 := ⟨rfl, (kn_in 864 (by decide +kernel) (by decide +kernel)), ⟨(kn_in 862 (by decide +kernel) (by decide +kernel)), (kn_in 863 (by decide +kernel) (by decide +kernel)), (kn_in 46 (by decide +kernel) (by decide +kernel))⟩, ⟨by decide, by decide, by decide +kernel⟩, ⟨_, _, rfl⟩⟩
abbrev MX7_isPoint : kn_M := (yX7_isPoint, cX7_isPoint, 2, some .boolean, [], 1, 22)
theorem mm_X7_isPoint : kn_mS MX7_isPoint 2 := ⟨rfl, (kn_in 872 (by decide +kernel) (by decide +kernel)), ⟨(kn_in 871 (by decide +kernel) (by decide +kernel)), (kn_in 46 (by decide +kernel) (by decide +kernel))⟩, ⟨by decide, by decide, by decide +kernel⟩⟩
abbrev MX7_cellOf : kn_M := (yX7_cellOf, cX7_cellOf, 2, some .int, [], 1, 21)
theorem mm_X7_cellOf : kn_mS MX7_cellOf 2 := ⟨rfl, (kn_in 879 (by decide +kernel) (by decide +kernel)), ⟨(kn_in 878 (by decide +kernel) (by decide +kernel)), (kn_in 46 (by decide +kernel) (by decide +kernel))⟩, ⟨by decide, by decide, by decide +kernel⟩⟩
abbrev MX7_retard : kn_M := (yX7_retard, cX7_retard, 3, some .int, [], 1, 21)
theorem mm_X7_retard : kn_mV MX7_retard 2 6 := ⟨rfl, (kn_in 939 (by decide +kernel) (by decide +kernel)), ⟨(kn_in 938 (by decide +kernel) (by decide +kernel)), (kn_in 28 (by decide +kernel) (by decide +kernel)), (kn_in 46 (by decide +kernel) (by decide +kernel))⟩, ⟨by decide, by decide, by decide +kernel⟩, ⟨_, _, rfl⟩⟩
abbrev MX7_senses : kn_M := (yX7_senses, cX7_senses, 3, none, [], 1, 23)
theorem mm_X7_senses : kn_mV MX7_senses 1 6 := ⟨rfl, (kn_in 886 (by decide +kernel) (by decide +kernel)), ⟨(kn_in 885 (by decide +kernel) (by decide +kernel)), (kn_in 18 (by decide +kernel) (by decide +kernel)), (kn_in 46 (by decide +kernel) (by decide +kernel))⟩, ⟨by decide, by decide, by decide +kernel⟩, ⟨_, _, rfl⟩⟩
abbrev MX7_knocks : kn_M := (yX7_knocks, cX7_knocks, 8, none, [], 1, 23)
theorem mm_X7_knocks : kn_mV MX7_knocks 4 6 := ⟨rfl, (kn_in 898 (by decide +kernel) (by decide +kernel)), ⟨(kn_in 897 (by decide +kernel) (by decide +kernel)), (kn_in 21 (by decide +kernel) (by decide +kernel)), (kn_in 46 (by decide +kernel) (by decide +kernel))⟩, ⟨by decide, by decide, by decide +kernel⟩, ⟨_, _, rfl⟩⟩
abbrev MX7_rests : kn_M := (yX7_rests, cX7_rests, 3, none, [], 1, 22)
theorem mm_X7_rests : kn_mV MX7_rests 2 6 := ⟨rfl, (kn_in 902 (by decide +kernel) (by decide +kernel)), ⟨(kn_in 901 (by decide +kernel) (by decide +kernel)), (kn_in 22 (by decide +kernel) (by decide +kernel)), (kn_in 46 (by decide +kernel) (by decide +kernel))⟩, ⟨by decide, by decide, by decide +kernel⟩, ⟨_, _, rfl⟩⟩
abbrev MX7_evens : kn_M := (yX7_evens, cX7_evens, 3, none, [], 1, 22)
theorem mm_X7_evens : kn_mV MX7_evens 0 6 := ⟨rfl, (kn_in 909 (by decide +kernel) (by decide +kernel)), ⟨(kn_in 908 (by decide +kernel) (by decide +kernel)), (kn_in 23 (by decide +kernel) (by decide +kernel)), (kn_in 46 (by decide +kernel) (by decide +kernel))⟩, ⟨by decide, by decide, by decide +kernel⟩, ⟨_, _, rfl⟩⟩
abbrev MX7_learns : kn_M := (yX7_learns, cX7_learns, 6, none, [], 1, 23)
theorem mm_X7_learns : kn_mV MX7_learns 1 6 := ⟨rfl, (kn_in 917 (by decide +kernel) (by decide +kernel)), ⟨(kn_in 916 (by decide +kernel) (by decide +kernel)), (kn_in 25 (by decide +kernel) (by decide +kernel)), (kn_in 46 (by decide +kernel) (by decide +kernel))⟩, ⟨by decide, by decide, by decide +kernel⟩, ⟨_, _, rfl⟩⟩
abbrev MX7_isOctane : kn_M := (yX7_isOctane, cX7_isOctane, 1, some .boolean, [], 1, 22)
theorem mm_X7_isOctane : kn_mS MX7_isOctane 1 := ⟨rfl, (kn_in 924 (by decide +kernel) (by decide +kernel)), ⟨(kn_in 923 (by decide +kernel) (by decide +kernel)), (kn_in 46 (by decide +kernel) (by decide +kernel))⟩, ⟨by decide, by decide, by decide +kernel⟩⟩
abbrev MX7_isCylinder : kn_M := (yX7_isCylinder, cX7_isCylinder, 2, some .boolean, [], 1, 22)
theorem mm_X7_isCylinder : kn_mV MX7_isCylinder 1 6 := ⟨rfl, (kn_in 959 (by decide +kernel) (by decide +kernel)), ⟨(kn_in 958 (by decide +kernel) (by decide +kernel)), (kn_in 29 (by decide +kernel) (by decide +kernel)), (kn_in 46 (by decide +kernel) (by decide +kernel))⟩, ⟨by decide, by decide, by decide +kernel⟩, ⟨_, _, rfl⟩⟩
abbrev MX7_tellCylinder : kn_M := (yX7_tellCylinder, cX7_tellCylinder, 3, some .int, [], 1, 21)
theorem mm_X7_tellCylinder : kn_mV MX7_tellCylinder 2 6 := ⟨rfl, (kn_in 963 (by decide +kernel) (by decide +kernel)), ⟨(kn_in 962 (by decide +kernel) (by decide +kernel)), (kn_in 30 (by decide +kernel) (by decide +kernel)), (kn_in 46 (by decide +kernel) (by decide +kernel))⟩, ⟨by decide, by decide, by decide +kernel⟩, ⟨_, _, rfl⟩⟩
abbrev MX7_status : kn_M := (yX7_status, cX7_status, 2, some .int, [], 1, 22)
theorem mm_X7_status : kn_mV MX7_status 1 6 := ⟨rfl, (kn_in 975 (by decide +kernel) (by decide +kernel)), ⟨(kn_in 973 (by decide +kernel) (by decide +kernel)), (kn_in 974 (by decide +kernel) (by decide +kernel)), (kn_in 46 (by decide +kernel) (by decide +kernel))⟩, ⟨by decide, by decide, by decide +kernel⟩, ⟨_, _, rfl⟩⟩
abbrev MX7_unfairness : kn_M := (yX7_unfairness, cX7_unfairness, 3, some .int, [], 1, 22)
theorem mm_X7_unfairness : kn_mV MX7_unfairness 0 6 := ⟨rfl, (kn_in 979 (by decide +kernel) (by decide +kernel)), ⟨(kn_in 977 (by decide +kernel) (by decide +kernel)), (kn_in 978 (by decide +kernel) (by decide +kernel)), (kn_in 46 (by decide +kernel) (by decide +kernel))⟩, ⟨by decide, by decide, by decide +kernel⟩, ⟨_, _, rfl⟩⟩
abbrev MX7_octane : kn_M := (yX7_octane, cX7_octane, 6, some .double, [], 1, 22)
theorem mm_X7_octane : kn_mV MX7_octane 1 6 := ⟨rfl, (kn_in 997 (by decide +kernel) (by decide +kernel)), ⟨(kn_in 995 (by decide +kernel) (by decide +kernel)), (kn_in 996 (by decide +kernel) (by decide +kernel)), (kn_in 46 (by decide +kernel) (by decide +kernel))⟩, ⟨by decide, by decide, by decide +kernel⟩, ⟨_, _, rfl⟩⟩
abbrev MX7_extreme : kn_M := (yX7_extreme, cX7_extreme, 7, some .int, [], 1, 22)
theorem mm_X7_extreme : kn_mV MX7_extreme 3 6 := ⟨rfl, (kn_in 1003 (by decide +kernel) (by decide +kernel)), ⟨(kn_in 1001 (by decide +kernel) (by decide +kernel)), (kn_in 1002 (by decide +kernel) (by decide +kernel)), (kn_in 46 (by decide +kernel) (by decide +kernel))⟩, ⟨by decide, by decide, by decide +kernel⟩, ⟨_, _, rfl⟩⟩
abbrev MX7_event : kn_M := (yX7_event, cX7_event, 3, some .int, [], 1, 22)
theorem mm_X7_event : kn_mV MX7_event 2 6 := ⟨rfl, (kn_in 1011 (by decide +kernel) (by decide +kernel)), ⟨(kn_in 1009 (by decide +kernel) (by decide +kernel)), (kn_in 1010 (by decide +kernel) (by decide +kernel)), (kn_in 46 (by decide +kernel) (by decide +kernel))⟩, ⟨by decide, by decide, by decide +kernel⟩, ⟨_, _, rfl⟩⟩
abbrev MX7_eventsOf : kn_M := (yX7_eventsOf, cX7_eventsOf, 4, some .int, [], 1, 22)
theorem mm_X7_eventsOf : kn_mV MX7_eventsOf 1 6 := ⟨rfl, (kn_in 1015 (by decide +kernel) (by decide +kernel)), ⟨(kn_in 1013 (by decide +kernel) (by decide +kernel)), (kn_in 1014 (by decide +kernel) (by decide +kernel)), (kn_in 46 (by decide +kernel) (by decide +kernel))⟩, ⟨by decide, by decide, by decide +kernel⟩, ⟨_, _, rfl⟩⟩
abbrev MX7_append : kn_M := (yX7_append, cX7_append, 2, some .int, [], 1, 22)
theorem mm_X7_append : kn_mV MX7_append 1 6 := ⟨rfl, (kn_in 1039 (by decide +kernel) (by decide +kernel)), ⟨(kn_in 1037 (by decide +kernel) (by decide +kernel)), (kn_in 1038 (by decide +kernel) (by decide +kernel)), (kn_in 46 (by decide +kernel) (by decide +kernel))⟩, ⟨by decide, by decide, by decide +kernel⟩, ⟨_, _, rfl⟩⟩
abbrev MX7_isDigit : kn_M := (yX7_isDigit, cX7_isDigit, 1, some .boolean, [], 1, 22)
theorem mm_X7_isDigit : kn_mV MX7_isDigit 0 6 := ⟨rfl, (kn_in 1059 (by decide +kernel) (by decide +kernel)), ⟨(kn_in 1058 (by decide +kernel) (by decide +kernel)), (kn_in 35 (by decide +kernel) (by decide +kernel)), (kn_in 46 (by decide +kernel) (by decide +kernel))⟩, ⟨by decide, by decide, by decide +kernel⟩, ⟨_, _, rfl⟩⟩
abbrev MX7_mixAll : kn_M := (yX7_mixAll, cX7_mixAll, 4, none, [], 1, 21)
theorem mm_X7_mixAll : kn_mV MX7_mixAll 2 6 := ⟨rfl, (kn_in 1073 (by decide +kernel) (by decide +kernel)), ⟨(kn_in 1072 (by decide +kernel) (by decide +kernel)), (kn_in 37 (by decide +kernel) (by decide +kernel)), (kn_in 46 (by decide +kernel) (by decide +kernel))⟩, ⟨by decide, by decide, by decide +kernel⟩, ⟨_, _, rfl⟩⟩
abbrev MJxf58ca_floatToIntBits_5c35a : kn_M := (yJxf58ca_floatToIntBits_5c35a, cJxf58ca_floatToIntBits_5c35a, 1, some .int, [], 1, 20)
theorem mm_Jxf58ca_floatToIntBits_5c35a : kn_mS MJxf58ca_floatToIntBits_5c35a 1 := ⟨rfl, (kn_in 986 (by decide +kernel) (by decide +kernel)), ⟨(kn_in 985 (by decide +kernel) (by decide +kernel)), (kn_in 53 (by decide +kernel) (by decide +kernel))⟩, ⟨by decide, by decide, by decide +kernel⟩⟩
abbrev MX1_init : kn_M := (yX1_init, cX1_init, 1, none, [], 2, 61)
theorem mm_X1_init : kn_mI MX1_init 0 := ⟨rfl, (kn_in 209 (by decide +kernel) (by decide +kernel)), ⟨(kn_in 208 (by decide +kernel) (by decide +kernel)), (kn_in 45 (by decide +kernel) (by decide +kernel)), rfl, rfl⟩, ⟨by decide, by decide, by decide +kernel⟩⟩
abbrev MX3_init : kn_M := (yX3_init, cX3_init, 1, none, [], 2, 61)
theorem mm_X3_init : kn_mI MX3_init 0 := ⟨rfl, (kn_in 87 (by decide +kernel) (by decide +kernel)), ⟨(kn_in 86 (by decide +kernel) (by decide +kernel)), (kn_in 43 (by decide +kernel) (by decide +kernel)), rfl, rfl⟩, ⟨by decide, by decide, by decide +kernel⟩⟩
abbrev MX3_copy : kn_M := (yX3_copy, cX3_copy, 2, none, [], 2, 43)
theorem mm_X3_copy : kn_mV MX3_copy 1 2 := ⟨rfl, (kn_in 266 (by decide +kernel) (by decide +kernel)), ⟨(kn_in 264 (by decide +kernel) (by decide +kernel)), (kn_in 265 (by decide +kernel) (by decide +kernel)), (kn_in 43 (by decide +kernel) (by decide +kernel))⟩, ⟨by decide, by decide, by decide +kernel⟩, ⟨_, _, rfl⟩⟩
abbrev MX5_aboutCylinder : kn_M := (yX5_aboutCylinder, cX5_aboutCylinder, 3, some .int, [], 2, 42)
theorem mm_X5_aboutCylinder : kn_mV MX5_aboutCylinder 2 4 := ⟨rfl, (kn_in 438 (by decide +kernel) (by decide +kernel)), ⟨(kn_in 436 (by decide +kernel) (by decide +kernel)), (kn_in 437 (by decide +kernel) (by decide +kernel)), (kn_in 40 (by decide +kernel) (by decide +kernel))⟩, ⟨by decide, by decide, by decide +kernel⟩, ⟨_, _, rfl⟩⟩
abbrev MX5_advanceOf : kn_M := (yX5_advanceOf, cX5_advanceOf, 4, some .int, [], 2, 44)
theorem mm_X5_advanceOf : kn_mV MX5_advanceOf 3 4 := ⟨rfl, (kn_in 618 (by decide +kernel) (by decide +kernel)), ⟨(kn_in 616 (by decide +kernel) (by decide +kernel)), (kn_in 617 (by decide +kernel) (by decide +kernel)), (kn_in 40 (by decide +kernel) (by decide +kernel))⟩, ⟨by decide, by decide, by decide +kernel⟩, ⟨_, _, rfl⟩⟩
abbrev MX5_watchSensor : kn_M := (yX5_watchSensor, cX5_watchSensor, 3, none, [], 2, 46)
theorem mm_X5_watchSensor : kn_mV MX5_watchSensor 1 4 := ⟨rfl, (kn_in 372 (by decide +kernel) (by decide +kernel)), ⟨(kn_in 371 (by decide +kernel) (by decide +kernel)), (kn_in 3 (by decide +kernel) (by decide +kernel)), (kn_in 40 (by decide +kernel) (by decide +kernel))⟩, ⟨by decide, by decide, by decide +kernel⟩, ⟨_, _, rfl⟩⟩
abbrev MX5_listen : kn_M := (yX5_listen, cX5_listen, 5, some .int, [], 2, 50)
theorem mm_X5_listen : kn_mV MX5_listen 3 4 := ⟨rfl, (kn_in 385 (by decide +kernel) (by decide +kernel)), ⟨(kn_in 384 (by decide +kernel) (by decide +kernel)), (kn_in 5 (by decide +kernel) (by decide +kernel)), (kn_in 40 (by decide +kernel) (by decide +kernel))⟩, ⟨by decide, by decide, by decide +kernel⟩, ⟨_, _, rfl⟩⟩
abbrev MX5_keepTogether : kn_M := (yX5_keepTogether, cX5_keepTogether, 3, none, [], 2, 43)
theorem mm_X5_keepTogether : kn_mV MX5_keepTogether 0 4 := ⟨rfl, (kn_in 408 (by decide +kernel) (by decide +kernel)), ⟨(kn_in 407 (by decide +kernel) (by decide +kernel)), (kn_in 8 (by decide +kernel) (by decide +kernel)), (kn_in 40 (by decide +kernel) (by decide +kernel))⟩, ⟨by decide, by decide, by decide +kernel⟩, ⟨_, _, rfl⟩⟩
abbrev MX5_learn : kn_M := (yX5_learn, cX5_learn, 5, none, [], 2, 46)
theorem mm_X5_learn : kn_mV MX5_learn 1 4 := ⟨rfl, (kn_in 413 (by decide +kernel) (by decide +kernel)), ⟨(kn_in 412 (by decide +kernel) (by decide +kernel)), (kn_in 9 (by decide +kernel) (by decide +kernel)), (kn_in 40 (by decide +kernel) (by decide +kernel))⟩, ⟨by decide, by decide, by decide +kernel⟩, ⟨_, _, rfl⟩⟩
abbrev MX6_unfairness : kn_M := (yX6_unfairness, cX6_unfairness, 1, some .int, [], 2, 43)
theorem mm_X6_unfairness : kn_mV MX6_unfairness 0 5 := ⟨rfl, (kn_in 279 (by decide +kernel) (by decide +kernel)), ⟨(kn_in 277 (by decide +kernel) (by decide +kernel)), (kn_in 278 (by decide +kernel) (by decide +kernel)), (kn_in 39 (by decide +kernel) (by decide +kernel))⟩, ⟨by decide, by decide, by decide +kernel⟩, ⟨_, _, rfl⟩⟩
abbrev MX6_rateBits : kn_M := (yX6_rateBits, cX6_rateBits, 1, some .int, [], 2, 43)
theorem mm_X6_rateBits : kn_mV MX6_rateBits 0 5 := ⟨rfl, (kn_in 296 (by decide +kernel) (by decide +kernel)), ⟨(kn_in 294 (by decide +kernel) (by decide +kernel)), (kn_in 295 (by decide +kernel) (by decide +kernel)), (kn_in 39 (by decide +kernel) (by decide +kernel))⟩, ⟨by decide, by decide, by decide +kernel⟩, ⟨_, _, rfl⟩⟩
abbrev MX6_isFiring : kn_M := (yX6_isFiring, cX6_isFiring, 3, some .boolean, [], 2, 43)
theorem mm_X6_isFiring : kn_mS MX6_isFiring 3 := ⟨rfl, (kn_in 354 (by decide +kernel) (by decide +kernel)), ⟨(kn_in 353 (by decide +kernel) (by decide +kernel)), (kn_in 39 (by decide +kernel) (by decide +kernel))⟩, ⟨by decide, by decide, by decide +kernel⟩⟩
abbrev MX6_isDriving : kn_M := (yX6_isDriving, cX6_isDriving, 3, some .boolean, [], 2, 43)
theorem mm_X6_isDriving : kn_mS MX6_isDriving 3 := ⟨rfl, (kn_in 605 (by decide +kernel) (by decide +kernel)), ⟨(kn_in 604 (by decide +kernel) (by decide +kernel)), (kn_in 39 (by decide +kernel) (by decide +kernel))⟩, ⟨by decide, by decide, by decide +kernel⟩⟩
abbrev MX7_set : kn_M := (yX7_set, cX7_set, 4, some .int, [], 2, 43)
theorem mm_X7_set : kn_mV MX7_set 2 6 := ⟨rfl, (kn_in 842 (by decide +kernel) (by decide +kernel)), ⟨(kn_in 840 (by decide +kernel) (by decide +kernel)), (kn_in 841 (by decide +kernel) (by decide +kernel)), (kn_in 46 (by decide +kernel) (by decide +kernel))⟩, ⟨by decide, by decide, by decide +kernel⟩, ⟨_, _, rfl⟩⟩
abbrev MX7_teach : kn_M := (yX7_teach, cX7_teach, 6, some .int, [], 2, 43)
theorem mm_X7_teach : kn_mV MX7_teach 3 6 := ⟨rfl, (kn_in 853 (by decide +kernel) (by decide +kernel)), ⟨(kn_in 851 (by decide +kernel) (by decide +kernel)), (kn_in 852 (by decide +kernel) (by decide +kernel)), (kn_in 46 (by decide +kernel) (by decide +kernel))⟩, ⟨by decide, by decide, by decide +kernel⟩, ⟨_, _, rfl⟩⟩
abbrev MX7_advance : kn_M := (yX7_advance, cX7_advance, 4, some .int, [], 2, 43)
theorem mm_X7_advance : kn_mV MX7_advance 3 6 := ⟨rfl, (kn_in 935 (by decide +kernel) (by decide +kernel)), ⟨(kn_in 934 (by decide +kernel) (by decide +kernel)), (kn_in 27 (by decide +kernel) (by decide +kernel)), (kn_in 46 (by decide +kernel) (by decide +kernel))⟩, ⟨by decide, by decide, by decide +kernel⟩, ⟨_, _, rfl⟩⟩
abbrev MX7_treats : kn_M := (yX7_treats, cX7_treats, 8, some .int, [], 2, 50)
theorem mm_X7_treats : kn_mV MX7_treats 3 6 := ⟨rfl, (kn_in 876 (by decide +kernel) (by decide +kernel)), ⟨(kn_in 875 (by decide +kernel) (by decide +kernel)), (kn_in 17 (by decide +kernel) (by decide +kernel)), (kn_in 46 (by decide +kernel) (by decide +kernel))⟩, ⟨by decide, by decide, by decide +kernel⟩, ⟨_, _, rfl⟩⟩
abbrev MX7_cylinder : kn_M := (yX7_cylinder, cX7_cylinder, 3, some .int, [], 2, 43)
theorem mm_X7_cylinder : kn_mV MX7_cylinder 2 6 := ⟨rfl, (kn_in 955 (by decide +kernel) (by decide +kernel)), ⟨(kn_in 953 (by decide +kernel) (by decide +kernel)), (kn_in 954 (by decide +kernel) (by decide +kernel)), (kn_in 46 (by decide +kernel) (by decide +kernel))⟩, ⟨by decide, by decide, by decide +kernel⟩, ⟨_, _, rfl⟩⟩
abbrev MX7_learned : kn_M := (yX7_learned, cX7_learned, 3, some .int, [], 2, 43)
theorem mm_X7_learned : kn_mV MX7_learned 2 6 := ⟨rfl, (kn_in 967 (by decide +kernel) (by decide +kernel)), ⟨(kn_in 965 (by decide +kernel) (by decide +kernel)), (kn_in 966 (by decide +kernel) (by decide +kernel)), (kn_in 46 (by decide +kernel) (by decide +kernel))⟩, ⟨by decide, by decide, by decide +kernel⟩, ⟨_, _, rfl⟩⟩
abbrev MX7_rateBits : kn_M := (yX7_rateBits, cX7_rateBits, 3, some .int, [], 2, 40)
theorem mm_X7_rateBits : kn_mV MX7_rateBits 0 6 := ⟨rfl, (kn_in 983 (by decide +kernel) (by decide +kernel)), ⟨(kn_in 981 (by decide +kernel) (by decide +kernel)), (kn_in 982 (by decide +kernel) (by decide +kernel)), (kn_in 46 (by decide +kernel) (by decide +kernel))⟩, ⟨by decide, by decide, by decide +kernel⟩, ⟨_, _, rfl⟩⟩
abbrev MX7_reads : kn_M := (yX7_reads, cX7_reads, 4, some .boolean, [], 2, 42)
theorem mm_X7_reads : kn_mV MX7_reads 1 6 := ⟨rfl, (kn_in 1055 (by decide +kernel) (by decide +kernel)), ⟨(kn_in 1054 (by decide +kernel) (by decide +kernel)), (kn_in 34 (by decide +kernel) (by decide +kernel)), (kn_in 46 (by decide +kernel) (by decide +kernel))⟩, ⟨by decide, by decide, by decide +kernel⟩, ⟨_, _, rfl⟩⟩
abbrev MX7_digest : kn_M := (yX7_digest, cX7_digest, 3, some .long, [], 2, 44)
theorem mm_X7_digest : kn_mV MX7_digest 0 6 := ⟨rfl, (kn_in 1063 (by decide +kernel) (by decide +kernel)), ⟨(kn_in 1061 (by decide +kernel) (by decide +kernel)), (kn_in 1062 (by decide +kernel) (by decide +kernel)), (kn_in 46 (by decide +kernel) (by decide +kernel))⟩, ⟨by decide, by decide, by decide +kernel⟩, ⟨_, _, rfl⟩⟩
abbrev MX5_init : kn_M := (yX5_init, cX5_init, 2, none, [], 3, 81)
theorem mm_X5_init : kn_mI MX5_init 0 := ⟨rfl, (kn_in 67 (by decide +kernel) (by decide +kernel)), ⟨(kn_in 66 (by decide +kernel) (by decide +kernel)), (kn_in 40 (by decide +kernel) (by decide +kernel)), rfl, rfl⟩, ⟨by decide, by decide, by decide +kernel⟩⟩
abbrev MX5_copy : kn_M := (yX5_copy, cX5_copy, 2, none, [], 3, 64)
theorem mm_X5_copy : kn_mV MX5_copy 1 4 := ⟨rfl, (kn_in 254 (by decide +kernel) (by decide +kernel)), ⟨(kn_in 252 (by decide +kernel) (by decide +kernel)), (kn_in 253 (by decide +kernel) (by decide +kernel)), (kn_in 40 (by decide +kernel) (by decide +kernel))⟩, ⟨by decide, by decide, by decide +kernel⟩, ⟨_, _, rfl⟩⟩
abbrev MX5_treat : kn_M := (yX5_treat, cX5_treat, 6, some .int, [], 3, 74)
theorem mm_X5_treat : kn_mV MX5_treat 3 4 := ⟨rfl, (kn_in 364 (by decide +kernel) (by decide +kernel)), ⟨(kn_in 362 (by decide +kernel) (by decide +kernel)), (kn_in 363 (by decide +kernel) (by decide +kernel)), (kn_in 40 (by decide +kernel) (by decide +kernel))⟩, ⟨by decide, by decide, by decide +kernel⟩, ⟨_, _, rfl⟩⟩
abbrev MX6_firstWrongFiring : kn_M := (yX6_firstWrongFiring, cX6_firstWrongFiring, 2, some .int, [], 3, 65)
theorem mm_X6_firstWrongFiring : kn_mV MX6_firstWrongFiring 0 5 := ⟨rfl, (kn_in 343 (by decide +kernel) (by decide +kernel)), ⟨(kn_in 342 (by decide +kernel) (by decide +kernel)), (kn_in 2 (by decide +kernel) (by decide +kernel)), (kn_in 39 (by decide +kernel) (by decide +kernel))⟩, ⟨by decide, by decide, by decide +kernel⟩, ⟨_, _, rfl⟩⟩
abbrev MX6_digest : kn_M := (yX6_digest, cX6_digest, 5, some .long, [], 3, 64)
theorem mm_X6_digest : kn_mV MX6_digest 0 5 := ⟨rfl, (kn_in 421 (by decide +kernel) (by decide +kernel)), ⟨(kn_in 419 (by decide +kernel) (by decide +kernel)), (kn_in 420 (by decide +kernel) (by decide +kernel)), (kn_in 39 (by decide +kernel) (by decide +kernel))⟩, ⟨by decide, by decide, by decide +kernel⟩, ⟨_, _, rfl⟩⟩
abbrev MX7_fires : kn_M := (yX7_fires, cX7_fires, 6, some .int, [], 3, 77)
theorem mm_X7_fires : kn_mV MX7_fires 3 6 := ⟨rfl, (kn_in 928 (by decide +kernel) (by decide +kernel)), ⟨(kn_in 927 (by decide +kernel) (by decide +kernel)), (kn_in 26 (by decide +kernel) (by decide +kernel)), (kn_in 46 (by decide +kernel) (by decide +kernel))⟩, ⟨by decide, by decide, by decide +kernel⟩, ⟨_, _, rfl⟩⟩
abbrev MX7_fire : kn_M := (yX7_fire, cX7_fire, 4, some .int, [], 3, 77)
theorem mm_X7_fire : kn_mV MX7_fire 3 6 := ⟨rfl, (kn_in 869 (by decide +kernel) (by decide +kernel)), ⟨(kn_in 867 (by decide +kernel) (by decide +kernel)), (kn_in 868 (by decide +kernel) (by decide +kernel)), (kn_in 46 (by decide +kernel) (by decide +kernel))⟩, ⟨by decide, by decide, by decide +kernel⟩, ⟨_, _, rfl⟩⟩
abbrev MX7_angle : kn_M := (yX7_angle, cX7_angle, 5, some .int, [], 3, 66)
theorem mm_X7_angle : kn_mV MX7_angle 4 6 := ⟨rfl, (kn_in 971 (by decide +kernel) (by decide +kernel)), ⟨(kn_in 969 (by decide +kernel) (by decide +kernel)), (kn_in 970 (by decide +kernel) (by decide +kernel)), (kn_in 46 (by decide +kernel) (by decide +kernel))⟩, ⟨by decide, by decide, by decide +kernel⟩, ⟨_, _, rfl⟩⟩
abbrev MX7_limit : kn_M := (yX7_limit, cX7_limit, 7, some .int, [], 3, 66)
theorem mm_X7_limit : kn_mV MX7_limit 4 6 := ⟨rfl, (kn_in 1019 (by decide +kernel) (by decide +kernel)), ⟨(kn_in 1017 (by decide +kernel) (by decide +kernel)), (kn_in 1018 (by decide +kernel) (by decide +kernel)), (kn_in 46 (by decide +kernel) (by decide +kernel))⟩, ⟨by decide, by decide, by decide +kernel⟩, ⟨_, _, rfl⟩⟩
abbrev MX7_readsFiring : kn_M := (yX7_readsFiring, cX7_readsFiring, 2, some .boolean, [], 3, 65)
theorem mm_X7_readsFiring : kn_mV MX7_readsFiring 0 6 := ⟨rfl, (kn_in 1051 (by decide +kernel) (by decide +kernel)), ⟨(kn_in 1050 (by decide +kernel) (by decide +kernel)), (kn_in 33 (by decide +kernel) (by decide +kernel)), (kn_in 46 (by decide +kernel) (by decide +kernel))⟩, ⟨by decide, by decide, by decide +kernel⟩, ⟨_, _, rfl⟩⟩
abbrev MX2_init : kn_M := (yX2_init, cX2_init, 2, none, [], 4, 102)
theorem mm_X2_init : kn_mI MX2_init 0 := ⟨rfl, (kn_in 190 (by decide +kernel) (by decide +kernel)), ⟨(kn_in 189 (by decide +kernel) (by decide +kernel)), (kn_in 44 (by decide +kernel) (by decide +kernel)), rfl, rfl⟩, ⟨by decide, by decide, by decide +kernel⟩⟩
abbrev MX2_keep : kn_M := (yX2_keep, cX2_keep, 3, none, [], 4, 85)
theorem mm_X2_keep : kn_mV MX2_keep 1 1 := ⟨rfl, (kn_in 246 (by decide +kernel) (by decide +kernel)), ⟨(kn_in 244 (by decide +kernel) (by decide +kernel)), (kn_in 245 (by decide +kernel) (by decide +kernel)), (kn_in 44 (by decide +kernel) (by decide +kernel))⟩, ⟨by decide, by decide, by decide +kernel⟩, ⟨_, _, rfl⟩⟩
abbrev MX2_restore : kn_M := (yX2_restore, cX2_restore, 3, none, [], 4, 85)
theorem mm_X2_restore : kn_mV MX2_restore 1 1 := ⟨rfl, (kn_in 764 (by decide +kernel) (by decide +kernel)), ⟨(kn_in 762 (by decide +kernel) (by decide +kernel)), (kn_in 763 (by decide +kernel) (by decide +kernel)), (kn_in 44 (by decide +kernel) (by decide +kernel))⟩, ⟨by decide, by decide, by decide +kernel⟩, ⟨_, _, rfl⟩⟩
abbrev MX5_treatModelled : kn_M := (yX5_treatModelled, cX5_treatModelled, 7, some .int, [], 4, 99)
theorem mm_X5_treatModelled : kn_mV MX5_treatModelled 3 4 := ⟨rfl, (kn_in 609 (by decide +kernel) (by decide +kernel)), ⟨(kn_in 607 (by decide +kernel) (by decide +kernel)), (kn_in 608 (by decide +kernel) (by decide +kernel)), (kn_in 40 (by decide +kernel) (by decide +kernel))⟩, ⟨by decide, by decide, by decide +kernel⟩, ⟨_, _, rfl⟩⟩
abbrev MX7_drive : kn_M := (yX7_drive, cX7_drive, 7, some .int, [], 4, 102)
theorem mm_X7_drive : kn_mV MX7_drive 4 6 := ⟨rfl, (kn_in 921 (by decide +kernel) (by decide +kernel)), ⟨(kn_in 919 (by decide +kernel) (by decide +kernel)), (kn_in 920 (by decide +kernel) (by decide +kernel)), (kn_in 46 (by decide +kernel) (by decide +kernel))⟩, ⟨by decide, by decide, by decide +kernel⟩, ⟨_, _, rfl⟩⟩
abbrev MX7_quietAfter : kn_M := (yX7_quietAfter, cX7_quietAfter, 7, some .int, [], 4, 102)
theorem mm_X7_quietAfter : kn_mV MX7_quietAfter 3 6 := ⟨rfl, (kn_in 1023 (by decide +kernel) (by decide +kernel)), ⟨(kn_in 1021 (by decide +kernel) (by decide +kernel)), (kn_in 1022 (by decide +kernel) (by decide +kernel)), (kn_in 46 (by decide +kernel) (by decide +kernel))⟩, ⟨by decide, by decide, by decide +kernel⟩, ⟨_, _, rfl⟩⟩
abbrev MX7_lowestOctane : kn_M := (yX7_lowestOctane, cX7_lowestOctane, 7, some .int, [], 4, 102)
theorem mm_X7_lowestOctane : kn_mV MX7_lowestOctane 3 6 := ⟨rfl, (kn_in 1035 (by decide +kernel) (by decide +kernel)), ⟨(kn_in 1033 (by decide +kernel) (by decide +kernel)), (kn_in 1034 (by decide +kernel) (by decide +kernel)), (kn_in 46 (by decide +kernel) (by decide +kernel))⟩, ⟨by decide, by decide, by decide +kernel⟩, ⟨_, _, rfl⟩⟩
abbrev MX7_replay : kn_M := (yX7_replay, cX7_replay, 3, some .int, [], 4, 86)
theorem mm_X7_replay : kn_mV MX7_replay 0 6 := ⟨rfl, (kn_in 1047 (by decide +kernel) (by decide +kernel)), ⟨(kn_in 1045 (by decide +kernel) (by decide +kernel)), (kn_in 1046 (by decide +kernel) (by decide +kernel)), (kn_in 46 (by decide +kernel) (by decide +kernel))⟩, ⟨by decide, by decide, by decide +kernel⟩, ⟨_, _, rfl⟩⟩
abbrev MX6_init : kn_M := (yX6_init, cX6_init, 1, none, [], 5, 123)
theorem mm_X6_init : kn_mI MX6_init 0 := ⟨rfl, (kn_in 59 (by decide +kernel) (by decide +kernel)), ⟨(kn_in 58 (by decide +kernel) (by decide +kernel)), (kn_in 39 (by decide +kernel) (by decide +kernel)), rfl, rfl⟩, ⟨by decide, by decide, by decide +kernel⟩⟩
abbrev MX6_breakSensor : kn_M := (yX6_breakSensor, cX6_breakSensor, 3, some .boolean, [], 5, 107)
theorem mm_X6_breakSensor : kn_mV MX6_breakSensor 1 5 := ⟨rfl, (kn_in 242 (by decide +kernel) (by decide +kernel)), ⟨(kn_in 240 (by decide +kernel) (by decide +kernel)), (kn_in 241 (by decide +kernel) (by decide +kernel)), (kn_in 39 (by decide +kernel) (by decide +kernel))⟩, ⟨by decide, by decide, by decide +kernel⟩, ⟨_, _, rfl⟩⟩
abbrev MX6_staysQuiet : kn_M := (yX6_staysQuiet, cX6_staysQuiet, 6, some .boolean, [], 5, 125)
theorem mm_X6_staysQuiet : kn_mV MX6_staysQuiet 4 5 := ⟨rfl, (kn_in 722 (by decide +kernel) (by decide +kernel)), ⟨(kn_in 721 (by decide +kernel) (by decide +kernel)), (kn_in 13 (by decide +kernel) (by decide +kernel)), (kn_in 39 (by decide +kernel) (by decide +kernel))⟩, ⟨by decide, by decide, by decide +kernel⟩, ⟨_, _, rfl⟩⟩
abbrev MX6_replay : kn_M := (yX6_replay, cX6_replay, 4, some .int, [], 5, 107)
theorem mm_X6_replay : kn_mV MX6_replay 0 5 := ⟨rfl, (kn_in 329 (by decide +kernel) (by decide +kernel)), ⟨(kn_in 327 (by decide +kernel) (by decide +kernel)), (kn_in 328 (by decide +kernel) (by decide +kernel)), (kn_in 39 (by decide +kernel) (by decide +kernel))⟩, ⟨by decide, by decide, by decide +kernel⟩, ⟨_, _, rfl⟩⟩
abbrev MX6_demand : kn_M := (yX6_demand, cX6_demand, 1, none, [], 6, 82)
theorem mm_X6_demand : kn_mS MX6_demand 1 := ⟨rfl, (kn_in 459 (by decide +kernel) (by decide +kernel)), ⟨(kn_in 458 (by decide +kernel) (by decide +kernel)), (kn_in 39 (by decide +kernel) (by decide +kernel))⟩, ⟨by decide, by decide, by decide +kernel⟩⟩
abbrev MX6_demandPlace : kn_M := (yX6_demandPlace, cX6_demandPlace, 1, none, [], 6, 82)
theorem mm_X6_demandPlace : kn_mS MX6_demandPlace 1 := ⟨rfl, (kn_in 564 (by decide +kernel) (by decide +kernel)), ⟨(kn_in 563 (by decide +kernel) (by decide +kernel)), (kn_in 39 (by decide +kernel) (by decide +kernel))⟩, ⟨by decide, by decide, by decide +kernel⟩⟩
abbrev MX6_demandState : kn_M := (yX6_demandState, cX6_demandState, 1, none, [], 6, 82)
theorem mm_X6_demandState : kn_mS MX6_demandState 1 := ⟨rfl, (kn_in 733 (by decide +kernel) (by decide +kernel)), ⟨(kn_in 732 (by decide +kernel) (by decide +kernel)), (kn_in 39 (by decide +kernel) (by decide +kernel))⟩, ⟨by decide, by decide, by decide +kernel⟩⟩
abbrev MX6_begin : kn_M := (yX6_begin, cX6_begin, 3, some .int, [], 7, 107)
theorem mm_X6_begin : kn_mV MX6_begin 1 5 := ⟨rfl, (kn_in 456 (by decide +kernel) (by decide +kernel)), ⟨(kn_in 454 (by decide +kernel) (by decide +kernel)), (kn_in 455 (by decide +kernel) (by decide +kernel)), (kn_in 39 (by decide +kernel) (by decide +kernel))⟩, ⟨by decide, by decide, by decide +kernel⟩, ⟨_, _, rfl⟩⟩
abbrev MX6_set : kn_M := (yX6_set, cX6_set, 4, some .int, [], 7, 107)
theorem mm_X6_set : kn_mV MX6_set 2 5 := ⟨rfl, (kn_in 535 (by decide +kernel) (by decide +kernel)), ⟨(kn_in 533 (by decide +kernel) (by decide +kernel)), (kn_in 534 (by decide +kernel) (by decide +kernel)), (kn_in 39 (by decide +kernel) (by decide +kernel))⟩, ⟨by decide, by decide, by decide +kernel⟩, ⟨_, _, rfl⟩⟩
abbrev MX6_value : kn_M := (yX6_value, cX6_value, 2, some .int, [], 7, 102)
theorem mm_X6_value : kn_mV MX6_value 1 5 := ⟨rfl, (kn_in 550 (by decide +kernel) (by decide +kernel)), ⟨(kn_in 548 (by decide +kernel) (by decide +kernel)), (kn_in 549 (by decide +kernel) (by decide +kernel)), (kn_in 39 (by decide +kernel) (by decide +kernel))⟩, ⟨by decide, by decide, by decide +kernel⟩, ⟨_, _, rfl⟩⟩
abbrev MX6_teach : kn_M := (yX6_teach, cX6_teach, 6, some .int, [], 7, 107)
theorem mm_X6_teach : kn_mV MX6_teach 3 5 := ⟨rfl, (kn_in 558 (by decide +kernel) (by decide +kernel)), ⟨(kn_in 556 (by decide +kernel) (by decide +kernel)), (kn_in 557 (by decide +kernel) (by decide +kernel)), (kn_in 39 (by decide +kernel) (by decide +kernel))⟩, ⟨by decide, by decide, by decide +kernel⟩, ⟨_, _, rfl⟩⟩
abbrev MX6_seed : kn_M := (yX6_seed, cX6_seed, 3, some .int, [], 7, 107)
theorem mm_X6_seed : kn_mV MX6_seed 1 5 := ⟨rfl, (kn_in 587 (by decide +kernel) (by decide +kernel)), ⟨(kn_in 585 (by decide +kernel) (by decide +kernel)), (kn_in 586 (by decide +kernel) (by decide +kernel)), (kn_in 39 (by decide +kernel) (by decide +kernel))⟩, ⟨by decide, by decide, by decide +kernel⟩, ⟨_, _, rfl⟩⟩
abbrev MX6_fire : kn_M := (yX6_fire, cX6_fire, 4, some .int, [], 7, 107)
theorem mm_X6_fire : kn_mV MX6_fire 3 5 := ⟨rfl, (kn_in 595 (by decide +kernel) (by decide +kernel)), ⟨(kn_in 593 (by decide +kernel) (by decide +kernel)), (kn_in 594 (by decide +kernel) (by decide +kernel)), (kn_in 39 (by decide +kernel) (by decide +kernel))⟩, ⟨by decide, by decide, by decide +kernel⟩, ⟨_, _, rfl⟩⟩
abbrev MX6_drive : kn_M := (yX6_drive, cX6_drive, 7, some .int, [], 7, 125)
theorem mm_X6_drive : kn_mV MX6_drive 4 5 := ⟨rfl, (kn_in 602 (by decide +kernel) (by decide +kernel)), ⟨(kn_in 600 (by decide +kernel) (by decide +kernel)), (kn_in 601 (by decide +kernel) (by decide +kernel)), (kn_in 39 (by decide +kernel) (by decide +kernel))⟩, ⟨by decide, by decide, by decide +kernel⟩, ⟨_, _, rfl⟩⟩
abbrev MX6_cylinder : kn_M := (yX6_cylinder, cX6_cylinder, 3, some .int, [], 7, 102)
theorem mm_X6_cylinder : kn_mV MX6_cylinder 2 5 := ⟨rfl, (kn_in 635 (by decide +kernel) (by decide +kernel)), ⟨(kn_in 633 (by decide +kernel) (by decide +kernel)), (kn_in 634 (by decide +kernel) (by decide +kernel)), (kn_in 39 (by decide +kernel) (by decide +kernel))⟩, ⟨by decide, by decide, by decide +kernel⟩, ⟨_, _, rfl⟩⟩
abbrev MX6_learned : kn_M := (yX6_learned, cX6_learned, 3, some .int, [], 7, 102)
theorem mm_X6_learned : kn_mV MX6_learned 2 5 := ⟨rfl, (kn_in 646 (by decide +kernel) (by decide +kernel)), ⟨(kn_in 644 (by decide +kernel) (by decide +kernel)), (kn_in 645 (by decide +kernel) (by decide +kernel)), (kn_in 39 (by decide +kernel) (by decide +kernel))⟩, ⟨by decide, by decide, by decide +kernel⟩, ⟨_, _, rfl⟩⟩
abbrev MX6_angle : kn_M := (yX6_angle, cX6_angle, 5, some .int, [], 7, 102)
theorem mm_X6_angle : kn_mV MX6_angle 4 5 := ⟨rfl, (kn_in 653 (by decide +kernel) (by decide +kernel)), ⟨(kn_in 651 (by decide +kernel) (by decide +kernel)), (kn_in 652 (by decide +kernel) (by decide +kernel)), (kn_in 39 (by decide +kernel) (by decide +kernel))⟩, ⟨by decide, by decide, by decide +kernel⟩, ⟨_, _, rfl⟩⟩
abbrev MX6_status : kn_M := (yX6_status, cX6_status, 2, some .int, [], 7, 102)
theorem mm_X6_status : kn_mV MX6_status 1 5 := ⟨rfl, (kn_in 663 (by decide +kernel) (by decide +kernel)), ⟨(kn_in 661 (by decide +kernel) (by decide +kernel)), (kn_in 662 (by decide +kernel) (by decide +kernel)), (kn_in 39 (by decide +kernel) (by decide +kernel))⟩, ⟨by decide, by decide, by decide +kernel⟩, ⟨_, _, rfl⟩⟩
abbrev MX6_octane : kn_M := (yX6_octane, cX6_octane, 6, some .double, [], 7, 102)
theorem mm_X6_octane : kn_mV MX6_octane 1 5 := ⟨rfl, (kn_in 670 (by decide +kernel) (by decide +kernel)), ⟨(kn_in 668 (by decide +kernel) (by decide +kernel)), (kn_in 669 (by decide +kernel) (by decide +kernel)), (kn_in 39 (by decide +kernel) (by decide +kernel))⟩, ⟨by decide, by decide, by decide +kernel⟩, ⟨_, _, rfl⟩⟩
abbrev MX6_extreme : kn_M := (yX6_extreme, cX6_extreme, 10, some .int, [], 7, 102)
theorem mm_X6_extreme : kn_mV MX6_extreme 3 5 := ⟨rfl, (kn_in 679 (by decide +kernel) (by decide +kernel)), ⟨(kn_in 677 (by decide +kernel) (by decide +kernel)), (kn_in 678 (by decide +kernel) (by decide +kernel)), (kn_in 39 (by decide +kernel) (by decide +kernel))⟩, ⟨by decide, by decide, by decide +kernel⟩, ⟨_, _, rfl⟩⟩
abbrev MX6_event : kn_M := (yX6_event, cX6_event, 3, some .int, [], 7, 102)
theorem mm_X6_event : kn_mV MX6_event 2 5 := ⟨rfl, (kn_in 688 (by decide +kernel) (by decide +kernel)), ⟨(kn_in 686 (by decide +kernel) (by decide +kernel)), (kn_in 687 (by decide +kernel) (by decide +kernel)), (kn_in 39 (by decide +kernel) (by decide +kernel))⟩, ⟨by decide, by decide, by decide +kernel⟩, ⟨_, _, rfl⟩⟩
abbrev MX6_eventsOf : kn_M := (yX6_eventsOf, cX6_eventsOf, 4, some .int, [], 7, 102)
theorem mm_X6_eventsOf : kn_mV MX6_eventsOf 1 5 := ⟨rfl, (kn_in 695 (by decide +kernel) (by decide +kernel)), ⟨(kn_in 693 (by decide +kernel) (by decide +kernel)), (kn_in 694 (by decide +kernel) (by decide +kernel)), (kn_in 39 (by decide +kernel) (by decide +kernel))⟩, ⟨by decide, by decide, by decide +kernel⟩, ⟨_, _, rfl⟩⟩
abbrev MX6_limit : kn_M := (yX6_limit, cX6_limit, 6, some .int, [], 7, 102)
theorem mm_X6_limit : kn_mV MX6_limit 4 5 := ⟨rfl, (kn_in 702 (by decide +kernel) (by decide +kernel)), ⟨(kn_in 700 (by decide +kernel) (by decide +kernel)), (kn_in 701 (by decide +kernel) (by decide +kernel)), (kn_in 39 (by decide +kernel) (by decide +kernel))⟩, ⟨by decide, by decide, by decide +kernel⟩, ⟨_, _, rfl⟩⟩
abbrev MX6_quietAfter : kn_M := (yX6_quietAfter, cX6_quietAfter, 7, some .int, [], 7, 125)
theorem mm_X6_quietAfter : kn_mV MX6_quietAfter 3 5 := ⟨rfl, (kn_in 710 (by decide +kernel) (by decide +kernel)), ⟨(kn_in 708 (by decide +kernel) (by decide +kernel)), (kn_in 709 (by decide +kernel) (by decide +kernel)), (kn_in 39 (by decide +kernel) (by decide +kernel))⟩, ⟨by decide, by decide, by decide +kernel⟩, ⟨_, _, rfl⟩⟩
abbrev MX6_lowestOctane : kn_M := (yX6_lowestOctane, cX6_lowestOctane, 5, some .int, [], 7, 150)
theorem mm_X6_lowestOctane : kn_mV MX6_lowestOctane 3 5 := ⟨rfl, (kn_in 718 (by decide +kernel) (by decide +kernel)), ⟨(kn_in 716 (by decide +kernel) (by decide +kernel)), (kn_in 717 (by decide +kernel) (by decide +kernel)), (kn_in 39 (by decide +kernel) (by decide +kernel))⟩, ⟨by decide, by decide, by decide +kernel⟩, ⟨_, _, rfl⟩⟩
abbrev MX6_append : kn_M := (yX6_append, cX6_append, 2, some .int, [], 7, 102)
theorem mm_X6_append : kn_mV MX6_append 1 5 := ⟨rfl, (kn_in 730 (by decide +kernel) (by decide +kernel)), ⟨(kn_in 728 (by decide +kernel) (by decide +kernel)), (kn_in 729 (by decide +kernel) (by decide +kernel)), (kn_in 39 (by decide +kernel) (by decide +kernel))⟩, ⟨by decide, by decide, by decide +kernel⟩, ⟨_, _, rfl⟩⟩
abbrev MX6_undo : kn_M := (yX6_undo, cX6_undo, 1, some .int, [], 7, 107)
theorem mm_X6_undo : kn_mV MX6_undo 0 5 := ⟨rfl, (kn_in 760 (by decide +kernel) (by decide +kernel)), ⟨(kn_in 758 (by decide +kernel) (by decide +kernel)), (kn_in 759 (by decide +kernel) (by decide +kernel)), (kn_in 39 (by decide +kernel) (by decide +kernel))⟩, ⟨by decide, by decide, by decide +kernel⟩, ⟨_, _, rfl⟩⟩
abbrev ML_begin : kn_M := (yL_begin, cL_begin, 4, some .int, [(0, 9, 12, 13)], 8, 129)
theorem mm_L_begin : kn_mSH ML_begin 3 := ⟨by simp, (kn_in 451 (by decide +kernel) (by decide +kernel)), ⟨(kn_in 450 (by decide +kernel) (by decide +kernel)), (kn_in 38 (by decide +kernel) (by decide +kernel))⟩, ⟨by decide, by decide, by decide +kernel⟩⟩
abbrev ML_set : kn_M := (yL_set, cL_set, 5, some .int, [(0, 10, 13, 13)], 8, 130)
theorem mm_L_set : kn_mSH ML_set 4 := ⟨by simp, (kn_in 531 (by decide +kernel) (by decide +kernel)), ⟨(kn_in 530 (by decide +kernel) (by decide +kernel)), (kn_in 38 (by decide +kernel) (by decide +kernel))⟩, ⟨by decide, by decide, by decide +kernel⟩⟩
abbrev ML_value : kn_M := (yL_value, cL_value, 4, some .int, [(0, 9, 12, 13)], 8, 123)
theorem mm_L_value : kn_mSH ML_value 3 := ⟨by simp, (kn_in 546 (by decide +kernel) (by decide +kernel)), ⟨(kn_in 545 (by decide +kernel) (by decide +kernel)), (kn_in 38 (by decide +kernel) (by decide +kernel))⟩, ⟨by decide, by decide, by decide +kernel⟩⟩
abbrev ML_teach : kn_M := (yL_teach, cL_teach, 6, some .int, [(0, 12, 15, 26), (0, 12, 19, 13)], 8, 132)
theorem mm_L_teach : kn_mSH ML_teach 5 := ⟨by simp, (kn_in 553 (by decide +kernel) (by decide +kernel)), ⟨(kn_in 552 (by decide +kernel) (by decide +kernel)), (kn_in 38 (by decide +kernel) (by decide +kernel))⟩, ⟨by decide, by decide, by decide +kernel⟩⟩
abbrev ML_seed : kn_M := (yL_seed, cL_seed, 4, some .int, [(0, 9, 12, 13)], 8, 129)
theorem mm_L_seed : kn_mSH ML_seed 3 := ⟨by simp, (kn_in 583 (by decide +kernel) (by decide +kernel)), ⟨(kn_in 582 (by decide +kernel) (by decide +kernel)), (kn_in 38 (by decide +kernel) (by decide +kernel))⟩, ⟨by decide, by decide, by decide +kernel⟩⟩
abbrev ML_fire : kn_M := (yL_fire, cL_fire, 6, some .int, [(0, 12, 15, 13)], 8, 130)
theorem mm_L_fire : kn_mSH ML_fire 5 := ⟨by simp, (kn_in 591 (by decide +kernel) (by decide +kernel)), ⟨(kn_in 590 (by decide +kernel) (by decide +kernel)), (kn_in 38 (by decide +kernel) (by decide +kernel))⟩, ⟨by decide, by decide, by decide +kernel⟩⟩
abbrev ML_drive : kn_M := (yL_drive, cL_drive, 7, some .int, [(0, 14, 17, 13)], 8, 151)
theorem mm_L_drive : kn_mSH ML_drive 6 := ⟨by simp, (kn_in 598 (by decide +kernel) (by decide +kernel)), ⟨(kn_in 597 (by decide +kernel) (by decide +kernel)), (kn_in 38 (by decide +kernel) (by decide +kernel))⟩, ⟨by decide, by decide, by decide +kernel⟩⟩
abbrev ML_cylinder : kn_M := (yL_cylinder, cL_cylinder, 5, some .int, [(0, 10, 13, 26), (0, 10, 17, 13)], 8, 124)
theorem mm_L_cylinder : kn_mSH ML_cylinder 4 := ⟨by simp, (kn_in 631 (by decide +kernel) (by decide +kernel)), ⟨(kn_in 630 (by decide +kernel) (by decide +kernel)), (kn_in 38 (by decide +kernel) (by decide +kernel))⟩, ⟨by decide, by decide, by decide +kernel⟩⟩
abbrev ML_learned : kn_M := (yL_learned, cL_learned, 5, some .int, [(0, 10, 13, 26)], 8, 124)
theorem mm_L_learned : kn_mSH ML_learned 4 := ⟨by simp, (kn_in 642 (by decide +kernel) (by decide +kernel)), ⟨(kn_in 641 (by decide +kernel) (by decide +kernel)), (kn_in 38 (by decide +kernel) (by decide +kernel))⟩, ⟨by decide, by decide, by decide +kernel⟩⟩
abbrev ML_angle : kn_M := (yL_angle, cL_angle, 7, some .int, [(0, 14, 17, 26), (0, 14, 21, 13)], 8, 126)
theorem mm_L_angle : kn_mSH ML_angle 6 := ⟨by simp, (kn_in 649 (by decide +kernel) (by decide +kernel)), ⟨(kn_in 648 (by decide +kernel) (by decide +kernel)), (kn_in 38 (by decide +kernel) (by decide +kernel))⟩, ⟨by decide, by decide, by decide +kernel⟩⟩
abbrev ML_status : kn_M := (yL_status, cL_status, 4, some .int, [(0, 9, 12, 13)], 8, 123)
theorem mm_L_status : kn_mSH ML_status 3 := ⟨by simp, (kn_in 659 (by decide +kernel) (by decide +kernel)), ⟨(kn_in 658 (by decide +kernel) (by decide +kernel)), (kn_in 38 (by decide +kernel) (by decide +kernel))⟩, ⟨by decide, by decide, by decide +kernel⟩⟩
abbrev ML_octane : kn_M := (yL_octane, cL_octane, 4, some .int, [(0, 8, 11, 26)], 8, 127)
theorem mm_L_octane : kn_mSH ML_octane 3 := ⟨by simp, (kn_in 666 (by decide +kernel) (by decide +kernel)), ⟨(kn_in 665 (by decide +kernel) (by decide +kernel)), (kn_in 38 (by decide +kernel) (by decide +kernel))⟩, ⟨by decide, by decide, by decide +kernel⟩⟩
abbrev ML_extreme : kn_M := (yL_extreme, cL_extreme, 6, some .int, [(0, 12, 15, 26)], 8, 131)
theorem mm_L_extreme : kn_mSH ML_extreme 5 := ⟨by simp, (kn_in 675 (by decide +kernel) (by decide +kernel)), ⟨(kn_in 674 (by decide +kernel) (by decide +kernel)), (kn_in 38 (by decide +kernel) (by decide +kernel))⟩, ⟨by decide, by decide, by decide +kernel⟩⟩
abbrev ML_event : kn_M := (yL_event, cL_event, 5, some .int, [(0, 10, 13, 26), (0, 10, 17, 13)], 8, 124)
theorem mm_L_event : kn_mSH ML_event 4 := ⟨by simp, (kn_in 684 (by decide +kernel) (by decide +kernel)), ⟨(kn_in 683 (by decide +kernel) (by decide +kernel)), (kn_in 38 (by decide +kernel) (by decide +kernel))⟩, ⟨by decide, by decide, by decide +kernel⟩⟩
abbrev ML_eventsOf : kn_M := (yL_eventsOf, cL_eventsOf, 4, some .int, [(0, 9, 12, 13)], 8, 125)
theorem mm_L_eventsOf : kn_mSH ML_eventsOf 3 := ⟨by simp, (kn_in 691 (by decide +kernel) (by decide +kernel)), ⟨(kn_in 690 (by decide +kernel) (by decide +kernel)), (kn_in 38 (by decide +kernel) (by decide +kernel))⟩, ⟨by decide, by decide, by decide +kernel⟩⟩
abbrev ML_limit : kn_M := (yL_limit, cL_limit, 7, some .int, [(0, 14, 17, 26), (0, 14, 21, 13)], 8, 127)
theorem mm_L_limit : kn_mSH ML_limit 6 := ⟨by simp, (kn_in 698 (by decide +kernel) (by decide +kernel)), ⟨(kn_in 697 (by decide +kernel) (by decide +kernel)), (kn_in 38 (by decide +kernel) (by decide +kernel))⟩, ⟨by decide, by decide, by decide +kernel⟩⟩
abbrev ML_quietAfter : kn_M := (yL_quietAfter, cL_quietAfter, 6, some .int, [(0, 12, 15, 13)], 8, 151)
theorem mm_L_quietAfter : kn_mSH ML_quietAfter 5 := ⟨by simp, (kn_in 706 (by decide +kernel) (by decide +kernel)), ⟨(kn_in 705 (by decide +kernel) (by decide +kernel)), (kn_in 38 (by decide +kernel) (by decide +kernel))⟩, ⟨by decide, by decide, by decide +kernel⟩⟩
abbrev ML_lowestOctane : kn_M := (yL_lowestOctane, cL_lowestOctane, 6, some .int, [(0, 12, 15, 13)], 8, 174)
theorem mm_L_lowestOctane : kn_mSH ML_lowestOctane 5 := ⟨by simp, (kn_in 714 (by decide +kernel) (by decide +kernel)), ⟨(kn_in 713 (by decide +kernel) (by decide +kernel)), (kn_in 38 (by decide +kernel) (by decide +kernel))⟩, ⟨by decide, by decide, by decide +kernel⟩⟩
abbrev ML_append : kn_M := (yL_append, cL_append, 4, some .int, [(0, 9, 12, 13), (0, 9, 15, 77)], 8, 123)
theorem mm_L_append : kn_mSH ML_append 3 := ⟨by simp, (kn_in 725 (by decide +kernel) (by decide +kernel)), ⟨(kn_in 724 (by decide +kernel) (by decide +kernel)), (kn_in 38 (by decide +kernel) (by decide +kernel))⟩, ⟨by decide, by decide, by decide +kernel⟩⟩
abbrev ML_undo : kn_M := (yL_undo, cL_undo, 3, some .int, [(0, 8, 11, 77)], 8, 127)
theorem mm_L_undo : kn_mSH ML_undo 2 := ⟨by simp, (kn_in 756 (by decide +kernel) (by decide +kernel)), ⟨(kn_in 755 (by decide +kernel) (by decide +kernel)), (kn_in 38 (by decide +kernel) (by decide +kernel))⟩, ⟨by decide, by decide, by decide +kernel⟩⟩
abbrev ML_law : kn_M := (yL_law, cL_law, 9, some .boolean, [], 9, 199)
theorem kn_insub {ws : List Cond} (ps : List Nat) (h : ws = ps.filterMap (fun i => lw_tbl[i]?)) (g : ws.all goodWord = true) : ∀ w ∈ ws, w ∈ kn_ws := by
  intro w hw
  have hg := List.all_eq_true.mp g w hw
  rw [h] at hw
  obtain ⟨i, -, hi⟩ := List.mem_filterMap.mp hw
  exact kn_in i hi hg
theorem hc_X1 : kn_cf 0 RX1 TX1 4 tyX1 := ⟨rfl, kn_insub [217, 219, 221, 223] (by decide +kernel) (by decide +kernel), tyX1_ok, nmX1⟩
theorem hc_X2 : kn_cf 1 RX2 TX2 3 tyX2 := ⟨rfl, kn_insub [198, 200, 202] (by decide +kernel) (by decide +kernel), tyX2_ok, nmX2⟩
theorem hc_X3 : kn_cf 2 RX3 TX3 5 tyX3 := ⟨rfl, kn_insub [96, 98, 100, 102, 104] (by decide +kernel) (by decide +kernel), tyX3_ok, nmX3⟩
theorem hc_X4 : kn_cf 3 RX4 TX4 1 tyX4 := ⟨rfl, kn_insub [79] (by decide +kernel) (by decide +kernel), tyX4_ok, nmX4⟩
theorem hc_X5 : kn_cf 4 RX5 TX5 17 tyX5 := ⟨rfl, kn_insub [151, 153, 155, 157, 159, 161, 163, 165, 167, 169, 171, 173, 175, 177, 179, 181, 183] (by decide +kernel) (by decide +kernel), tyX5_ok, nmX5⟩
theorem hc_X6 : kn_cf 5 RX6 TX6 4 tyX6 := ⟨rfl, kn_insub [230, 232, 234, 236] (by decide +kernel) (by decide +kernel), tyX6_ok, nmX6⟩
theorem hc_X7 : kn_cf 6 RX7 TX7 13 tyX7 := ⟨rfl, kn_insub [789, 791, 793, 795, 797, 799, 801, 803, 805, 807, 809, 811, 813] (by decide +kernel) (by decide +kernel), tyX7_ok, nmX7⟩
theorem wOI : Cond.instanceMethod Lib.objectInit ∈ kn_ws ∧ Cond.code Lib.objectInit ⟨#[0xb1]⟩ 1 none ∈ kn_ws := ⟨kn_in 61 (by decide +kernel) (by decide +kernel), kn_in 62 (by decide +kernel) (by decide +kernel)⟩
end
section
-- plain pictures of the small methods
theorem kn_inc (j : Nat) : nI j + Int32.ofInt 1 = nI (j + 1) := nI_1 j
def kf_at (f : Nat → Int32) (len : Nat) (p : Int32) : Int32 := if p < 0 then 0 else if nI len ≤ p then 0 else f p.toNatClampNeg
def kf_put (s : kn_S) (a len : Nat) (p x : Int32) : kn_S := if p < 0 then s else if nI len ≤ p then s else kn_up s a p.toNatClampNeg x
def kf_fill (s : kn_S) (a m : Nat) (x : Int32) : kn_S := fun b k => if b = a ∧ k < m then x else s b k
def kf_cpy (s : kn_S) (a : Nat) (f : Nat → Int32) (m : Nat) : kn_S := fun b k => if b = a ∧ k < m then f k else s b k
def kf_min (x y : Int32) : Int32 := if y < x then y else x
def kf_max (x y : Int32) : Int32 := if x < y then y else x
def kf_b (p : Prop) [Decidable p] : Int32 := if p then 1 else 0
def kn_isRow (z : kn_Z) (i len : Nat) : Prop := (i < z.1 ∧ z.2 i = .inl (3, [some (.ref (i + 1))])) ∧ (i + 1 < z.1 ∧ z.2 (i + 1) = .inr (.inl (0, len)))
def kn_isLog (z : kn_Z) (i : Nat) : Prop := (i < z.1 ∧ z.2 i = .inl (2, [some (.ref (i + 1)), some (.ref (i + 3)), some (.ref (i + 5)), none, none])) ∧ kn_isRow z (i + 1) 60 ∧ kn_isRow z (i + 3) 60 ∧ kn_isRow z (i + 5) 60
def kn_isSt (z : kn_Z) (b : Nat) : Prop := (b < z.1 ∧ z.2 b = .inl (4, [some (.ref (b + 1)), some (.ref (b + 3)), some (.ref (b + 5)), some (.ref (b + 7)), some (.ref (b + 9)), some (.ref (b + 11)), some (.ref (b + 13)), none, none, none, none, none, none, none, none, none, none])) ∧ kn_isRow z (b + 1) 8 ∧ kn_isRow z (b + 3) 8 ∧ kn_isRow z (b + 5) 8 ∧ kn_isRow z (b + 7) 8 ∧ kn_isRow z (b + 9) 8 ∧ kn_isRow z (b + 11) 24 ∧ kn_isLog z (b + 13)
theorem kn_vin {p : Int32} {len : Nat} (hl : len < 2 ^ 31) (h1 : ¬ p < 0) (h2 : ¬ nI len ≤ p) : vp_in p len := by
  obtain ⟨j, hj, rfl⟩ := nI_of h1
  have h3 : ¬ len ≤ j := fun h => h2 ((nI_leI hl hj).mpr h)
  exact vp_in_nI (by omega) hl
theorem kf_at_nI {f : Nat → Int32} {len k : Nat} (hl : len < 2 ^ 31) (h : k < len) : kf_at f len (nI k) = f k := by
  have h2 : k < 2 ^ 31 := by omega
  unfold kf_at
  rw [if_neg (nI_pos h2), if_neg (fun h3 => by have := (nI_leI hl h2).mp h3; omega), nI_clamp h2]
theorem kf_fill_0 (s : kn_S) (a : Nat) (x : Int32) : kf_fill s a 0 x = s := by
  funext b k
  simp [kf_fill]
theorem kf_fill_succ (s : kn_S) (a : Nat) (x : Int32) {m : Nat} (h : m < 2 ^ 31) : kn_up (kf_fill s a m x) a (nI m).toNatClampNeg x = kf_fill s a (m + 1) x := by
  rw [nI_clamp h]
  funext b k
  simp only [kn_up, kf_fill]
  by_cases hb : b = a
  · by_cases hk : k = m
    · subst hk; simp [hb]
    · have : (k < m + 1) = (k < m) := by simp; omega
      simp [hb, hk, this]
  · simp [hb]
theorem kf_cpy_0 (s : kn_S) (a : Nat) (f : Nat → Int32) : kf_cpy s a f 0 = s := by
  funext b k
  simp [kf_cpy]
theorem kf_cpy_succ (s : kn_S) (a : Nat) (f : Nat → Int32) {m : Nat} (h : m < 2 ^ 31) : kn_up (kf_cpy s a f m) a (nI m).toNatClampNeg (f m) = kf_cpy s a f (m + 1) := by
  rw [nI_clamp h]
  funext b k
  simp only [kn_up, kf_cpy]
  by_cases hb : b = a
  · by_cases hk : k = m
    · subst hk; simp [hb]
    · have : (k < m + 1) = (k < m) := by simp; omega
      simp [hb, hk, this]
  · simp [hb]
theorem kf_cpy_src (s : kn_S) (a j m : Nat) : kf_cpy s a (s j) m j m = s j m := by
  simp only [kf_cpy]
  split
  · omega
  · rfl

set_option maxRecDepth 100000 in
set_option maxHeartbeats 4000000 in
theorem m_X4_at {X : kn_X} {σ : kn_S} {τ : kn_T} {z : kn_Z} {c n : Nat} {Q : kn_Q} {i len : Nat} {p : Int32} (hr : kn_isRow z i len) (hl : len < 2 ^ 31) (hQ : Q (.inl (some (.int (kf_at (σ (i + 1)) len p)))) σ τ z) : kn_Ev X MX4_at [.ref i, .int p] σ τ z c n Q := by
  refine kn_entry (by decide +kernel) rfl (Nat.le_of_ble_eq_true rfl) ?_
  show kn_Go X MX4_at 0 [(0, .ref i), (1, .int p)] [] _ _ _ _ _ _
  refine k_iload_n 1 dX4_at_0 rfl rfl ?_
  refine k_iflt 22 dX4_at_1 (by decide) (fun h1 => ?_) (fun h1 => ?_)
  · refine k_iconst (0) dX4_at_22 (by decide) ?_
    refine k_iret dX4_at_23 rfl (rfl) ?_
    simp only [kf_at, h1, if_true] at hQ; exact hQ
  · refine k_iload_n 1 dX4_at_4 rfl rfl ?_
    refine k_aload_n 0 dX4_at_5 rfl rfl ?_
    refine k_getfield dX4_at_6 hc_X4 hr.1.1 hr.1.2 0 (by decide) wF_X4_13 rfl ?_
    refine k_alenI dX4_at_9 hr.2.1 hr.2.2 ?_
    refine k_icmpge 22 dX4_at_10 (by decide) (fun h10 => ?_) (fun h10 => ?_)
    · refine k_iconst (0) dX4_at_22 (by decide) ?_
      refine k_iret dX4_at_23 rfl (rfl) ?_
      simp only [kf_at, h1, h10, if_true, if_false] at hQ; exact hQ
    · refine k_aload_n 0 dX4_at_13 rfl rfl ?_
      refine k_getfield dX4_at_14 hc_X4 hr.1.1 hr.1.2 0 (by decide) wF_X4_13 rfl ?_
      refine k_iload_n 1 dX4_at_17 rfl rfl ?_
      refine k_iaload dX4_at_18 hr.2.1 hr.2.2 (kn_vin hl h1 h10) ?_
      refine k_goto 23 dX4_at_19 (by decide) ?_
      refine k_iret dX4_at_23 rfl (rfl) ?_
      simp only [kf_at, h1, h10, if_true, if_false] at hQ; exact hQ

set_option maxRecDepth 100000 in
set_option maxHeartbeats 4000000 in
theorem m_X4_put {X : kn_X} {σ : kn_S} {τ : kn_T} {z : kn_Z} {c n : Nat} {Q : kn_Q} {i len : Nat} {p x : Int32} (hr : kn_isRow z i len) (hl : len < 2 ^ 31) (hQ : Q (.inl none) (kf_put σ (i + 1) len p x) τ z) : kn_Ev X MX4_put [.ref i, .int p, .int x] σ τ z c n Q := by
  refine kn_entry (by decide +kernel) rfl (Nat.le_of_ble_eq_true rfl) ?_
  show kn_Go X MX4_put 0 [(0, .ref i), (1, .int p), (2, .int x)] [] _ _ _ _ _ _
  refine k_iload_n 1 dX4_put_0 rfl rfl ?_
  refine k_iflt 20 dX4_put_1 (by decide) (fun h1 => ?_) (fun h1 => ?_)
  · refine k_vret dX4_put_20 rfl ?_
    simp only [kf_put, h1, if_true] at hQ; exact hQ
  · refine k_iload_n 1 dX4_put_4 rfl rfl ?_
    refine k_aload_n 0 dX4_put_5 rfl rfl ?_
    refine k_getfield dX4_put_6 hc_X4 hr.1.1 hr.1.2 0 (by decide) wF_X4_13 rfl ?_
    refine k_alenI dX4_put_9 hr.2.1 hr.2.2 ?_
    refine k_icmpge 20 dX4_put_10 (by decide) (fun h10 => ?_) (fun h10 => ?_)
    · refine k_vret dX4_put_20 rfl ?_
      simp only [kf_put, h1, h10, if_true, if_false] at hQ; exact hQ
    · refine k_aload_n 0 dX4_put_13 rfl rfl ?_
      refine k_getfield dX4_put_14 hc_X4 hr.1.1 hr.1.2 0 (by decide) wF_X4_13 rfl ?_
      refine k_iload_n 1 dX4_put_17 rfl rfl ?_
      refine k_iload_n 2 dX4_put_18 rfl rfl ?_
      refine k_iastore dX4_put_19 hr.2.1 hr.2.2 (kn_vin hl h1 h10) ?_
      refine k_vret dX4_put_20 rfl ?_
      simp only [kf_put, h1, h10, if_true, if_false] at hQ; exact hQ

set_option maxRecDepth 100000 in
set_option maxHeartbeats 4000000 in
theorem m_X4_raise {X : kn_X} {σ : kn_S} {τ : kn_T} {z : kn_Z} {c n : Nat} {Q : kn_Q} {i len : Nat} {p x : Int32} (hr : kn_isRow z i len) (hl : len < 2 ^ 31) (hQ : Q (.inl none) (kf_put σ (i + 1) len p (σ (i + 1) p.toNatClampNeg + x)) τ z) : kn_Ev X MX4_raise [.ref i, .int p, .int x] σ τ z c n Q := by
  refine kn_entry (by decide +kernel) rfl (Nat.le_of_ble_eq_true rfl) ?_
  show kn_Go X MX4_raise 0 [(0, .ref i), (1, .int p), (2, .int x)] [] _ _ _ _ _ _
  refine k_iload_n 1 dX4_raise_0 rfl rfl ?_
  refine k_iflt 23 dX4_raise_1 (by decide) (fun h1 => ?_) (fun h1 => ?_)
  · refine k_vret dX4_raise_23 rfl ?_
    simp only [kf_put, h1, if_true] at hQ; exact hQ
  · refine k_iload_n 1 dX4_raise_4 rfl rfl ?_
    refine k_aload_n 0 dX4_raise_5 rfl rfl ?_
    refine k_getfield dX4_raise_6 hc_X4 hr.1.1 hr.1.2 0 (by decide) wF_X4_13 rfl ?_
    refine k_alenI dX4_raise_9 hr.2.1 hr.2.2 ?_
    refine k_icmpge 23 dX4_raise_10 (by decide) (fun h10 => ?_) (fun h10 => ?_)
    · refine k_vret dX4_raise_23 rfl ?_
      simp only [kf_put, h1, h10, if_true, if_false] at hQ; exact hQ
    · refine k_aload_n 0 dX4_raise_13 rfl rfl ?_
      refine k_getfield dX4_raise_14 hc_X4 hr.1.1 hr.1.2 0 (by decide) wF_X4_13 rfl ?_
      refine k_iload_n 1 dX4_raise_17 rfl rfl ?_
      refine k_dup2 dX4_raise_18 rfl rfl ?_
      refine k_iaload dX4_raise_19 hr.2.1 hr.2.2 (kn_vin hl h1 h10) ?_
      refine k_iload_n 2 dX4_raise_20 rfl rfl ?_
      refine k_iadd dX4_raise_21 ?_
      refine k_iastore dX4_raise_22 hr.2.1 hr.2.2 (kn_vin hl h1 h10) ?_
      refine k_vret dX4_raise_23 rfl ?_
      simp only [kf_put, h1, h10, if_true, if_false] at hQ; exact hQ

set_option maxRecDepth 100000 in
set_option maxHeartbeats 4000000 in
theorem m_X4_fill {X : kn_X} {σ : kn_S} {τ : kn_T} {z : kn_Z} {c n : Nat} {Q : kn_Q} {i len : Nat} {x : Int32} (hr : kn_isRow z i len) (hl : len < 2 ^ 31) (hQ : Q (.inl none) (kf_fill σ (i + 1) len x) τ z) : kn_Ev X MX4_fill [.ref i, .int x] σ τ z c n Q := by
  refine kn_entry (by decide +kernel) rfl (Nat.le_of_ble_eq_true rfl) ?_
  show kn_Go X MX4_fill 0 [(0, .ref i), (1, .int x)] [] _ _ _ _ _ _
  have lp2 : ∀ m : Nat, ∀ j : Nat, j ≤ len → len + 1 ≤ j + m → kn_Go X MX4_fill 2 [(2, .int (nI j)), (0, .ref i), (1, .int x)] [] (kf_fill σ (i + 1) j x) τ z c n Q := by
    intro m
    induction m with
    | zero =>
      intro j hj0 hm
      exact absurd hm (by omega)
    | succ m ih =>
      intro j hj0 hm
      refine k_iload_n 2 dX4_fill_2 rfl rfl ?_
      refine k_aload_n 0 dX4_fill_3 rfl rfl ?_
      refine k_getfield dX4_fill_4 hc_X4 hr.1.1 hr.1.2 0 (by decide) wF_X4_13 rfl ?_
      refine k_alenI dX4_fill_7 hr.2.1 hr.2.2 ?_
      refine k_icmpge 24 dX4_fill_8 (by decide) (fun h8 => ?_) (fun h8 => ?_)
      · have hj : j = len := by have := (nI_leI hl (by omega)).mp h8; omega
        subst hj
        refine k_vret dX4_fill_24 rfl ?_
        exact hQ
      · have hlt : j < len := by rcases Nat.lt_or_ge j len with q | q; exact q; exact absurd (nI_le q (by omega)) h8
        refine k_aload_n 0 dX4_fill_11 rfl rfl ?_
        refine k_getfield dX4_fill_12 hc_X4 hr.1.1 hr.1.2 0 (by decide) wF_X4_13 rfl ?_
        refine k_iload_n 2 dX4_fill_15 rfl rfl ?_
        refine k_iload_n 1 dX4_fill_16 rfl rfl ?_
        refine k_iastore dX4_fill_17 hr.2.1 hr.2.2 (vp_in_nI hlt hl) ?_
        refine k_iinc (nI (j + 1)) (lv' := [(2, _), (0, _), (1, _)]) dX4_fill_18 rfl (kn_inc j) (by decide) rfl ?_
        refine k_goto 2 dX4_fill_21 (by decide) ?_
        rw [kf_fill_succ σ (i + 1) x (by omega)]
        exact ih (j + 1) (by omega) (by omega)
  refine k_iconst (0) dX4_fill_0 (by decide) ?_
  refine k_istore_n 2 (lv' := [(2, _), (0, _), (1, _)]) dX4_fill_1 rfl (by decide) rfl ?_
  have e0 := kf_fill_0 σ (i + 1) x
  rw [← e0]
  exact lp2 (len + 1) 0 (Nat.zero_le _) (by omega)

set_option maxRecDepth 100000 in
set_option maxHeartbeats 4000000 in
theorem m_X4_copy {X : kn_X} {σ : kn_S} {τ : kn_T} {z : kn_Z} {c n : Nat} {Q : kn_Q} {i i2 len : Nat} (hr : kn_isRow z i len) (hr2 : kn_isRow z i2 len) (hl : len < 2 ^ 31) (hQ : Q (.inl none) (kf_cpy σ (i + 1) (σ (i2 + 1)) len) τ z) : kn_Ev X MX4_copy [.ref i, .ref i2] σ τ z c n Q := by
  refine kn_entry (by decide +kernel) rfl (Nat.le_of_ble_eq_true rfl) ?_
  show kn_Go X MX4_copy 0 [(0, .ref i), (1, .ref i2)] [] _ _ _ _ _ _
  have lp2 : ∀ m : Nat, ∀ j : Nat, j ≤ len → len + 1 ≤ j + m → kn_Go X MX4_copy 2 [(2, .int (nI j)), (0, .ref i), (1, .ref i2)] [] (kf_cpy σ (i + 1) (σ (i2 + 1)) j) τ z c n Q := by
    intro m
    induction m with
    | zero =>
      intro j hj0 hm
      exact absurd hm (by omega)
    | succ m ih =>
      intro j hj0 hm
      refine k_iload_n 2 dX4_copy_2 rfl rfl ?_
      refine k_aload_n 0 dX4_copy_3 rfl rfl ?_
      refine k_getfield dX4_copy_4 hc_X4 hr.1.1 hr.1.2 0 (by decide) wF_X4_13 rfl ?_
      refine k_alenI dX4_copy_7 hr.2.1 hr.2.2 ?_
      refine k_icmpge 28 dX4_copy_8 (by decide) (fun h8 => ?_) (fun h8 => ?_)
      · have hj : j = len := by have := (nI_leI hl (by omega)).mp h8; omega
        subst hj
        refine k_vret dX4_copy_28 rfl ?_
        exact hQ
      · have hlt : j < len := by rcases Nat.lt_or_ge j len with q | q; exact q; exact absurd (nI_le q (by omega)) h8
        refine k_aload_n 0 dX4_copy_11 rfl rfl ?_
        refine k_getfield dX4_copy_12 hc_X4 hr.1.1 hr.1.2 0 (by decide) wF_X4_13 rfl ?_
        refine k_iload_n 2 dX4_copy_15 rfl rfl ?_
        refine k_aload_n 1 dX4_copy_16 rfl rfl ?_
        refine k_iload_n 2 dX4_copy_17 rfl rfl ?_
        refine k_invV (As := [_]) dX4_copy_18 mm_X4_at wL_X4_19 ⟨by decide, by decide⟩ hr2.1.1 hr2.1.2 rfl rfl (Nat.le_of_ble_eq_true rfl) (Nat.zero_le _) (Nat.zero_le _) (m_X4_at hr2 hl ⟨rfl, ?_⟩)
        refine k_iastore dX4_copy_21 hr.2.1 hr.2.2 (vp_in_nI hlt hl) ?_
        refine k_iinc (nI (j + 1)) (lv' := [(2, _), (0, _), (1, _)]) dX4_copy_22 rfl (kn_inc j) (by decide) rfl ?_
        refine k_goto 2 dX4_copy_25 (by decide) ?_
        rw [kf_at_nI hl hlt, kf_cpy_src σ (i + 1) (i2 + 1) j, kf_cpy_succ σ (i + 1) (σ (i2 + 1)) (by omega)]
        exact ih (j + 1) (by omega) (by omega)
  refine k_iconst (0) dX4_copy_0 (by decide) ?_
  refine k_istore_n 2 (lv' := [(2, _), (0, _), (1, _)]) dX4_copy_1 rfl (by decide) rfl ?_
  have e0 := kf_cpy_0 σ (i + 1) (σ (i2 + 1))
  rw [← e0]
  exact lp2 (len + 1) 0 (Nat.zero_le _) (by omega)
end
