-- the three methods that throw
theorem kn_dem {X : kn_X} {M : kn_M} {σ : kn_S} {τ : kn_T} {z : kn_Z} {Q : kn_Q} {x : Int32} {E text : String} {ik is ic : Nat} {names : List String} (hp : plainName M.1.cls = true) (hM : M.2.2.2.2.1 = []) (hml0 : M.2.2.1 = 1) (hr0 : M.2.2.2.1 = none) (hroom : M.2.2.2.2.2.1 = 6 ∧ M.2.2.2.2.2.2 = 82) (hnl : names.length = 2)
    (d0 : decode M.2.1 0 = .ok (.iload_n 0, 1)) (d1 : decode M.2.1 1 = .ok (.ifCond .ne 13, 3)) (d4 : decode M.2.1 4 = .ok (.new ik, 3)) (d7 : decode M.2.1 7 = .ok (.dup, 1)) (d8 : decode M.2.1 8 = .ok (.ldc is, 2)) (d10 : decode M.2.1 10 = .ok (.invokespecial ic, 3)) (d13 : decode M.2.1 13 = .ok (.athrow, 1)) (d14 : decode M.2.1 14 = .ok (.return_, 1))
    (hcls : Bundle.fit E = true) (hnames : ∀ n ∈ names, Bundle.fit n = true) (hk : Cond.classLink M.1.cls ik E ∈ kn_ws) (hini : Cond.initialized E ∈ kn_ws) (hat : ∀ w ∈ vx_atS M.1.cls ic E names, w ∈ lw_tbl ∧ (goodWord w || kn_isN w) = true) (hgood : ∀ w ∈ Cond.classLink M.1.cls ik E :: Cond.initialized E :: vx_atS M.1.cls ic E names, vx_ot w = true)
    (hstr : ∀ (U : State) (H : Heap) (z0 : Nat) (ar : Nat → Nat), kn_Fx X z0 ar U H → ∃ sa, vk_R M.1.cls is text sa U)
    (h1 : ¬ x = 0 → Q (.inl none) σ τ z) (h2 : x = 0 → Q (.inr E) σ τ z) : kn_Ev X M [.int x] σ τ z 1 6 Q := by
  intro l D cs z0 ar ad htr
  have hw : kn_w M :: kn_ws = Cond.code M.1 M.2.1 M.2.2.1 M.2.2.2.1 :: kn_ws := by rw [kn_w, hM]
  refine vx_ofW (cc := M.2.1) (maxL := M.2.2.1) (ret := M.2.2.2.1) hp hw ?_
  intro p e s m args' below meth cd s₁ B hml ht hv
  obtain ⟨rfl, hW, hK, hF⟩ := hv
  have hts0 := atoms_spec (ws := kn_w M :: kn_ws) B.pre
  have hts : ∀ w ∈ kn_ws, w.before (List.map (kn_cv ad ar) [Value.int x]).toArray s = true := fun w hw => hts0 w (List.mem_cons_of_mem _ hw)
  have hown : s.vm.findClass M.1.cls = some m.cls := findClass_of_methodNamed B.named
  rw [lg_entry_eq]
  have hl := lv_entry ([Value.int x].map (kn_cv ad ar)) (n := M.2.2.1) (by rw [kn_sl_len, hml0]; exact Nat.le_refl _)
  generalize (lg_sl ([Value.int x].map (kn_cv ad ar)) ++ List.replicate (M.2.2.1 - (lg_sl ([Value.int x].map (kn_cv ad ar))).length) Slot.unset).toArray = ls at hl ⊢
  have hS : va_S (kn_A z0) s.heap s.heap [] := va_S.rf
  refine lv_iload_n (i := 0) B.exec B.bytes d0 rfl (lv_at hl 0 rfl) ?_
  refine lv_if_ne (tgt := 14) B.exec B.bytes d1 (by decide) (fun h => ?_) (fun h => ?_)
  · refine vx_ret (W.widen (Nat.zero_le 1) (Nat.zero_le 6) (W.vret B.exec B.bytes (B.returns.trans hr0) (fun t ht _ => ?_) hS.2.2 d14 B.notSynchronized))
    exact ⟨none, ad, σ, τ, z, rfl, h1 h, kn_Ad.rf, by rw [ht]; exact hW, hS.F ht⟩
  · obtain ⟨sa, hsa⟩ := hstr s s.heap z0 ar hF
    refine vx_throwS (A := kn_A z0) (names := names) (cells := 0) (slots := 0) B.exec B.bytes htr hown hcls hnames (hts _ hk) (hts _ hini) hsa (fun w hw => ?_) hgood hF.2.2.1.1 hF.2.2.1.2 hS (by rw [hml]; exact hl.1) d4 d7 d8 d10 d13
      (fun y hy => absurd (ht y hy) id) (by show names.length + 3 < M.2.2.2.2.2.1; rw [hnl, hroom.1]; decide) (by show _ ≤ M.2.2.2.2.2.2; rw [hnl, hroom.2]; decide) (Nat.le_refl 1) (Nat.le_refl 6) B.notSynchronized (fun t hA hz hq => ?_) hS.2.2 (Nat.le_refl 1) (Nat.le_refl 6)
    · obtain ⟨g1, g2⟩ := hat w hw
      rcases (Bool.or_eq_true _ _).mp g2 with g | g
      · exact hts w (List.mem_filter.mpr ⟨g1, g⟩)
      · exact kn_bad_use g (hF.2.2.2.2.1 w (List.mem_filter.mpr ⟨g1, g⟩))
    · exact ⟨ad, σ, τ, z, h2 h, kn_Ad.rf, ⟨hW.1.kept (fun k q hk => hq q.1 (hW.1 k q hk).lt), hW.2⟩, ⟨hz, fun q hq1 _ => hq q hq1⟩⟩
theorem m_X6_demand {X : kn_X} {σ : kn_S} {τ : kn_T} {z : kn_Z} {Q : kn_Q} {x : Int32} (h1 : ¬ x = 0 → Q (.inl none) σ τ z) (h2 : x = 0 → Q (.inr "java/lang/IllegalArgumentException") σ τ z) : kn_Ev X MX6_demand [.int x] σ τ z 1 6 Q :=
  kn_dem (text := "an argument is out of range") (names := ["java/lang/RuntimeException", "java/lang/Exception"]) (by decide) rfl rfl rfl ⟨rfl, rfl⟩ rfl dX6_demand_0 dX6_demand_1 dX6_demand_4 dX6_demand_7 dX6_demand_8 dX6_demand_10 dX6_demand_13 dX6_demand_14
    (by decide +kernel) (by decide +kernel) (kn_in 261 (by decide +kernel) (by decide +kernel)) (kn_in 24 (by decide +kernel) (by decide +kernel)) (by decide +kernel) (by decide +kernel) (fun U H z0 ar h => h.2.2.2.1.1) h1 h2
theorem m_X6_demandPlace {X : kn_X} {σ : kn_S} {τ : kn_T} {z : kn_Z} {Q : kn_Q} {x : Int32} (h1 : ¬ x = 0 → Q (.inl none) σ τ z) (h2 : x = 0 → Q (.inr "java/lang/IndexOutOfBoundsException") σ τ z) : kn_Ev X MX6_demandPlace [.int x] σ τ z 1 6 Q :=
  kn_dem (text := "there is no such place") (names := ["java/lang/RuntimeException", "java/lang/Exception"]) (by decide) rfl rfl rfl ⟨rfl, rfl⟩ rfl dX6_demandPlace_0 dX6_demandPlace_1 dX6_demandPlace_4 dX6_demandPlace_7 dX6_demandPlace_8 dX6_demandPlace_10 dX6_demandPlace_13 dX6_demandPlace_14
    (by decide +kernel) (by decide +kernel) (kn_in 361 (by decide +kernel) (by decide +kernel)) (kn_in 25 (by decide +kernel) (by decide +kernel)) (by decide +kernel) (by decide +kernel) (fun U H z0 ar h => h.2.2.2.1.2.1) h1 h2
theorem m_X6_demandState {X : kn_X} {σ : kn_S} {τ : kn_T} {z : kn_Z} {Q : kn_Q} {x : Int32} (h1 : ¬ x = 0 → Q (.inl none) σ τ z) (h2 : x = 0 → Q (.inr "java/lang/IllegalStateException") σ τ z) : kn_Ev X MX6_demandState [.int x] σ τ z 1 6 Q :=
  kn_dem (text := "not in this state") (names := ["java/lang/RuntimeException", "java/lang/Exception"]) (by decide) rfl rfl rfl ⟨rfl, rfl⟩ rfl dX6_demandState_0 dX6_demandState_1 dX6_demandState_4 dX6_demandState_7 dX6_demandState_8 dX6_demandState_10 dX6_demandState_13 dX6_demandState_14
    (by decide +kernel) (by decide +kernel) (kn_in 512 (by decide +kernel) (by decide +kernel)) (kn_in 23 (by decide +kernel) (by decide +kernel)) (by decide +kernel) (by decide +kernel) (fun U H z0 ar h => h.2.2.2.1.2.2) h1 h2

