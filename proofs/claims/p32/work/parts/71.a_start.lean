/-! THE CLAIM OUT OF ONE WALK OF THE LAW'S BODY. Your part is whole_start (and what it stands on); all else here is the same for every law, but numbers. -/
def R_law : String := "KnockControlLaw"
def lw_P (b : Addr) (xs : List Int32) (args : Array Value) (s : State) : Prop := args = #[.ref b] ∧ s.IntsAt b xs ∧ xs.length ≤ 260 ∧ (Jvm.Cond.and given_1 narrow_1).before args s = true
/-- what a walk over the start with the record d0 says of its end, said of the start itself -/
theorem lw_closed {s t : State} {o : Outcome} {d0 : Drawn} {L : List Loc} {k n : Nat} (hd0 : s.drawn.sameBut d0 lw_cs) (hv : ∃ v, o = .returned v) (hW : (s.setDrawn d0).WarmedH t.vm) (hs : (s.setDrawn d0).sameButNew ({ t with vm := s.vm } : State) L k n) : State.butDraws s t lw_cs (fun t1 => Framed s o t1 L k n) := by
  have h2 : t.drawn = d0 := congrArg State.drawn hs.1
  refine ⟨⟨hv, hW, State.sameButNew.setDrawn hs s.drawn⟩, ?_, by decide⟩
  rw [h2]
  exact hd0
def lw_Q (_ : Array Value) (s : State) (o : Outcome) (t : State) : Prop := o = .returned (some (.int 1)) ∧ State.butDraws s t lw_cs (fun t1 => Framed s o t1 [] 600104 7301314)
def lw_Z (below : List Frame) (a : Array Value) (s : State) : State → Prop := fun t => ∃ o, t.status = .running ∧ Ended t below o ∧ lw_Q a s o t
/-- the law's own end, with 1 on the stack, nothing written that was there before, its room as the claim has it; d0: the record of draws at this point (at the entry s.drawn: begin with 'refine W.base ?_' and 'have hd0 := Drawn.sameBut.refl s.drawn lw_cs') -/
theorem lw_ret {p : Program} {l : Launch} {e : Env} {s : State} {m : MethodId} {below : List Frame} {meth : Method} {c : Code} {b : Nat} {d0 : Drawn} (hd0 : s.drawn.sameBut d0 lw_cs) (hx : p.tables.exec = Jvm.exec) (hb : c.code = code) (hr : meth.sig.returnType = ret) (hlocks : meth.locks = false) {pc : Nat} {H : Heap} {ls : Array Slot} (hdg : decode code pc = .ok (.ireturn, 1)) : W p l e room_1 (s.setDrawn d0) m #[Value.ref b] below meth c H [] 600104 7301314 (lw_Z below #[Value.ref b] s) (F0 m pc ls [.int 1]) := by
  intro T hT X
  obtain ⟨fs, hret, hrun, hended, hW, hframe⟩ := X.leave (v := some (.int 1)) (hlocks := hlocks) (fun h => by rw [hr] at h; cases h)
  have hmeth' : T.vm.method? m = some meth := X.method'
  refine ⟨T.setFrames fs, ?_, .returned (some (.int 1)), hrun, hended, rfl, lw_closed hd0 ⟨_, rfl⟩ hW hframe⟩
  jvm_step X.here [X.here.top, hx, hb, hdg, hmeth', hr, ret, narrow_b1]
  (try refine ⟨rfl, ?_⟩); (try refine ⟨rfl, ?_⟩)
  first | (intro acts; rw [hret _ acts rfl rfl rfl]) | rw [hret _ _ rfl rfl rfl]
  exact Steps.refl _
/-- what holds at the law's entry: the machine, the code, the tables' words (any of lw_tbl by 'hts w (by decide +kernel)'), the script of L ints xs at the cell b, what the Statement gives of the start (any of its parts by flat_of_before) -/
def lw_At (p : Program) (s : State) (m : MethodId) (meth : Method) (c : Code) (b L : Nat) (xs : Nat → Int32) : Prop :=
  p.tables.exec = Jvm.exec ∧ c.code = code ∧ meth.sig.returnType = ret ∧ c.maxLocals = 11 ∧ s.vm.findClass R_law = some m.cls ∧ (∀ w ∈ lw_tbl, w.before #[Value.ref b] s = true) ∧ va_X b L xs s s.heap ∧ b < s.heap.size ∧ meth.locks = false ∧ (Jvm.Cond.and given_1 narrow_1).before #[Value.ref b] s = true ∧ c.exceptionTable.toList = []
-- the law's start
theorem kn_bad_of {w : Cond} (h : kn_isN w = true) {A : Array Value} {U : State} (hw : w.before A U = true) : va_Nw w U := by
  unfold kn_isN at h
  split at h
  · exact va_Nw.of rfl hw
  · exact va_Nw.of rfl hw
  · exact va_Nw.of rfl hw
  · exact va_Nw.of rfl hw
  · exact va_AO.of hw
  · cases h
theorem lw_inT (i : Nat) {w : Cond} (h : lw_tbl[i]? = some w) : w ∈ lw_tbl := List.mem_of_getElem? h
theorem kr_prim {s : State} {args : Array Value} {ty : FieldType} (h : (Cond.arrayClass ty).before args s = true) : ∃ c : ClassId, ArrOfT s c ty ∧ s.vm.findClass ("[" ++ ty.toString) = some c := by
  obtain ⟨c, k, comp, h1, h2, h3⟩ := Cond.arrayClass_spec h
  exact ⟨c, fun n z => ⟨fun k h => (by cases h), k, h2, comp, h3⟩, h1⟩
theorem kr_row {s : State} {args : Array Value} {F : String} {f : Nat → Int32} (hl : (Cond.laysStatic "KnockControl" F "[I").before args s = true) (hini : (Cond.initialized "KnockControl").before args s = true) (harr : (Cond.arrayOf (.static "KnockControl" F "[I") .int).before args s = true) (hlen : (Cond.eq (.length (.static "KnockControl" F "[I")) (.int 8)).before args s = true)
    (hel : ∀ j : Nat, j < 8 → (Cond.eq (.elem (.static "KnockControl" F "[I") (.int (Int32.ofNat j))) (.int (f j))).before args s = true) : ∃ t : Nat, va_Z "KnockControl" F "[I" (.ref t) (kn_A s.heap.size) s s.heap ∧ va_T .int t 8 (fun j => .int (f j)) (kn_A s.heap.size) s s.heap := by
  have hA : ∀ a : Nat, a < s.heap.size → ¬ kn_A s.heap.size a := fun a ha => Nat.not_le.mpr ha
  obtain ⟨t, h1, h2⟩ := va_Tof (N := 8) (f := fun j => .int (f j)) (by decide) harr (va_eqt hlen) (fun j hj => va_eqt (hel j hj)) hA
  exact ⟨t, va_Zof hl hini h1 hA, h2⟩
theorem kr_str {s : State} {args : Array Value} {k : Nat} {tx : String} (h1 : (Cond.stringRef RX6 k tx).before args s = true) (h2 : (Cond.exactly (.string RX6 k) "java/lang/String").before args s = true) : ∃ a, vk_R RX6 k tx a s := by
  obtain ⟨a, _, _, _, he, -⟩ := Cond.exactly_spec h2
  exact ⟨a, vk_R.of h1 he⟩
set_option maxHeartbeats 4000000 in
set_option maxRecDepth 100000 in
theorem kr_facts {s : State} {m : MethodId} {b L : Nat} {xs : Nat → Int32} (hts : ∀ w ∈ lw_tbl, w.before #[Value.ref b] s = true) (hX : va_X b L xs s s.heap) (hbl : b < s.heap.size) (hgv : (Jvm.Cond.and given_1 narrow_1).before #[Value.ref b] s = true) :
    ∃ (D : va_G) (cs ar : Nat → Nat), ar 0 = b ∧ va_K D vwCl (kn_ty cs) s ∧ kn_Fx (L, xs) s.heap.size ar s s.heap := by
  have hs := flat_of_before _ hgv
  have hkw : ∀ w ∈ kn_ws, w.before #[Value.ref b] s = true := fun w hw => hts w (List.mem_filter.mp hw).1
  obtain ⟨c1, i1, k1⟩ := u_known (T := TX1) (N := 4) hkw hc_X1.2.1 (hkw _ wI_X1)
  obtain ⟨c2, i2, k2⟩ := u_known (T := TX2) (N := 3) hkw hc_X2.2.1 (hkw _ wI_X2)
  obtain ⟨c3, i3, k3⟩ := u_known (T := TX3) (N := 5) hkw hc_X3.2.1 (hkw _ wI_X3)
  obtain ⟨c4, i4, k4⟩ := u_known (T := TX4) (N := 1) hkw hc_X4.2.1 (hkw _ wI_X4)
  obtain ⟨c5, i5, k5⟩ := u_known (T := TX5) (N := 17) hkw hc_X5.2.1 (hkw _ wI_X5)
  obtain ⟨c6, i6, k6⟩ := u_known (T := TX6) (N := 4) hkw hc_X6.2.1 (hkw _ wI_X6)
  obtain ⟨aI, pI, nI9⟩ := kr_prim (hkw _ wA_int)
  obtain ⟨comp, aS, kS, s1, -, s3, s4, s5⟩ := Cond.arrayOver_spec (hts _ (List.mem_filter.mp wA_state).1)
  obtain ⟨tL, zL, fL⟩ := kr_row (F := "LEAST_SETTING") (f := kn_least) (hts _ (lw_inT 342 (by decide +kernel))) (hts _ (lw_inT 13 (by decide +kernel))) (hs _ (by decide +kernel)) (hs _ (by decide +kernel)) (fun j hj => by
    have : j = 0 ∨ j = 1 ∨ j = 2 ∨ j = 3 ∨ j = 4 ∨ j = 5 ∨ j = 6 ∨ j = 7 := by omega
    rcases this with rfl | rfl | rfl | rfl | rfl | rfl | rfl | rfl <;> exact hs _ (by decide +kernel))
  obtain ⟨tF, zF, fF⟩ := kr_row (F := "FIRST_SETTING") (f := kn_first) (hts _ (lw_inT 80 (by decide +kernel))) (hts _ (lw_inT 13 (by decide +kernel))) (hs _ (by decide +kernel)) (hs _ (by decide +kernel)) (fun j hj => by
    have : j = 0 ∨ j = 1 ∨ j = 2 ∨ j = 3 ∨ j = 4 ∨ j = 5 ∨ j = 6 ∨ j = 7 := by omega
    rcases this with rfl | rfl | rfl | rfl | rfl | rfl | rfl | rfl <;> exact hs _ (by decide +kernel))
  obtain ⟨tM, zM, fM⟩ := kr_row (F := "MOST_SETTING") (f := kn_most) (hts _ (lw_inT 344 (by decide +kernel))) (hts _ (lw_inT 13 (by decide +kernel))) (hs _ (by decide +kernel)) (hs _ (by decide +kernel)) (fun j hj => by
    have : j = 0 ∨ j = 1 ∨ j = 2 ∨ j = 3 ∨ j = 4 ∨ j = 5 ∨ j = 6 ∨ j = 7 := by omega
    rcases this with rfl | rfl | rfl | rfl | rfl | rfl | rfl | rfl <;> exact hs _ (by decide +kernel))
  have hA : ∀ a : Nat, a < s.heap.size → ¬ kn_A s.heap.size a := fun a ha => Nat.not_le.mpr ha
  refine ⟨(fun k => if k = 0 then c1 else if k = 1 then c2 else if k = 2 then c3 else if k = 3 then c4 else if k = 4 then c5 else c6, fun k => if k = 0 then i1 else if k = 1 then i2 else if k = 2 then i3 else if k = 3 then i4 else if k = 4 then i5 else i6), (fun k => if k = 0 then aI else aS), (fun r => if r = 0 then b else if r = 1 then tL else if r = 2 then tF else tM), rfl, ⟨?_, ?_⟩, ?_⟩
  · intro k q hq
    match k, hq with
    | 0, hq => cases hq; exact k1
    | 1, hq => cases hq; exact k2
    | 2, hq => cases hq; exact k3
    | 3, hq => cases hq; exact k4
    | 4, hq => cases hq; exact k5
    | 5, hq => cases hq; exact k6
    | k + 6, hq => simp [vwCl] at hq
  · intro k q hq
    match k, hq with
    | 0, hq => cases hq; exact ⟨pI, nI9⟩
    | 1, hq => cases hq; exact ⟨fun n z => ⟨fun k h => (by cases h), kS, s3, comp, s4⟩, kS, comp, s3, s4, s1, s5⟩
    | k + 2, hq => simp [kn_ty] at hq
  · refine ⟨fun r hr => ?_, ⟨zL, zF, zM⟩, ⟨vx_Zqof (hts _ (lw_inT 288 (by decide +kernel))) (hts _ (lw_inT 20 (by decide +kernel))) (hs _ (by decide +kernel)) hA, vx_Zqof (hts _ (lw_inT 290 (by decide +kernel))) (hts _ (lw_inT 20 (by decide +kernel))) (hs _ (by decide +kernel)) hA⟩, ⟨kr_str (hts _ (lw_inT 302 (by decide +kernel))) (hs _ (by decide +kernel)), kr_str (hts _ (lw_inT 370 (by decide +kernel))) (hs _ (by decide +kernel)), kr_str (hts _ (lw_inT 521 (by decide +kernel))) (hs _ (by decide +kernel))⟩, fun w hw => kn_bad_of (List.mem_filter.mp hw).2 (hts w (List.mem_filter.mp hw).1), ⟨va_Nc.of (hs _ (by decide +kernel)), va_Nc.of (hs _ (by decide +kernel))⟩, Nat.le_refl _⟩
    have : r = 0 ∨ r = 1 ∨ r = 2 ∨ r = 3 := by omega
    rcases this with rfl | rfl | rfl | rfl
    · obtain ⟨scr, h1, h2, h3, h4, h5⟩ := hX
      exact ⟨scr, h1, h2, h3, by rw [h4]; exact Nat.le_refl _, by rw [h4]; rfl, h5, Nat.not_le.mpr hbl⟩
    · exact fL
    · exact fF
    · exact fM
set_option maxHeartbeats 4000000 in
set_option maxRecDepth 100000 in
/-- THE LAW, from its entry -/
theorem whole_start {p : Program} {e : Env} {s : State} {m : MethodId} {below : List Frame} {meth : Method} {c : Code} (l : Launch) (hflags : l.flags = flags0) {b L : Nat} {xs : Nat → Int32} (hL : L ≤ 260) (C0 : lw_At p s m meth c b L xs) : W p l e room_1 s m #[Value.ref b] below meth c s.heap [] 0 0 (lw_Z below #[Value.ref b] s) (entryFrame m ([Value.ref b] : List Value).toArray 11) := by
  obtain ⟨hx, hb, hr, hml, hown, hts, hX, hbl, hlocks, hgv, htab⟩ := C0
  obtain ⟨D, cs, ar, har, hK, hF⟩ := kr_facts (m := m) hts hX hbl hgv
  have htr : l.stackTraces = false := by
    unfold Launch.stackTraces
    rw [hflags]
    decide
  have C : kn_C (L, xs) ML_lawK D cs s.heap.size ar p l room_1 s m #[Value.ref b] meth c :=
    ⟨⟨hx, hb, hml, hown, fun w hw => hts w (List.mem_filter.mp hw).1⟩, ⟨htr, hr, hlocks, by rw [htab]; rfl, fun h => absurd h (by decide)⟩, ⟨by decide, by decide⟩, hK, hF⟩
  have E : kn_End (L, xs) ML_lawK D cs s.heap.size ar p l e room_1 s m #[Value.ref b] below meth c 0 (fun i => i) 600104 7301314 (lw_Z below #[Value.ref b] s) (fun o _ _ _ => o = .inl (some (.int 1))) := by
    constructor
    · intro v σ τ z ad H locs ls cells slots pc I hd hrok hQ hAd hWd hS hc hn
      cases hQ
      cases I <;> first
        | exact False.elim hrok
        | (refine va_forget (fun q hq => hS.2.2 q hq) (W.widen hc hn (W.base ?_)); exact lw_ret (Drawn.sameBut.refl _ _) hx hb hr hlocks hd)
    · intro E σ τ z ad H locs ls rest cells slots pc q ce hout hQ
      cases hQ
  have hl := lv_entry ([.ref b]) (n := 11) (Nat.le_of_ble_eq_true rfl)
  rw [lg_entry_eq]
  generalize (lg_sl ([.ref b]) ++ List.replicate (11 - (lg_sl ([.ref b])).length) Slot.unset).toArray = ls at hl ⊢
  have hl : lv_has ls 11 [(0, .ref b)] := hl
  have K := m_law (X := (L, xs)) (σ := fun _ _ => 0) (τ := fun _ _ => 0) (z := (0, fun _ => .inr (.inl (0, 0)))) (Q := fun o _ _ _ => o = .inl (some (.int 1))) rfl hL (fun _ _ _ => rfl)
  refine K D cs s.heap.size ar p l e room_1 s m #[Value.ref b] below meth c 0 (fun i => i) 600104 7301314 (lw_Z below #[Value.ref b] s) ⟨C, E, Nat.le_of_ble_eq_true rfl, Nat.le_of_ble_eq_true rfl⟩ (fun i => i) s.heap [] ls 0 0 ⟨⟨Nat.le_refl _, fun _ _ => rfl, fun _ => rfl⟩, ⟨Nat.le_of_ble_eq_true rfl, Nat.le_of_ble_eq_true rfl⟩, ⟨?_, ?_, ?_⟩, va_S.rf, ?_⟩
  · intro k q h
    exact absurd h (by simp [kn_wl])
  · exact ⟨fun i j p q h => absurd h (by simp [kn_wl]), fun k q h => absurd h (by simp [kn_wl])⟩
  · intro i hi
    exact absurd hi (Nat.not_lt_zero i)
  · show lv_has ls 11 [(0, .ref (ar 0))]
    rw [har]
    exact hl
