/-! THE JUDGEMENTS: a frame of a method M over one world of numbered cells; references are numbers of cells (.ref i) or of the four read-only rows (.retAddr r: 0 the script, 1..3 the settings' tables). -/
abbrev kn_S : Type := Nat → Nat → Int32
abbrev kn_T : Type := Nat → Nat → Int64
abbrev kn_F : Type := (Nat × List (Option Value)) ⊕ ((Nat × Nat) ⊕ List Value)
abbrev kn_Z : Type := Nat × (Nat → kn_F)
abbrev kn_M : Type := MethodName × ByteArray × Nat × Option FieldType × List (Nat × Nat × Nat × Nat) × Nat × Nat
abbrev kn_O : Type := Option Value ⊕ String
abbrev kn_X : Type := Nat × (Nat → Int32)
abbrev kn_Q : Type := kn_O → kn_S → kn_T → kn_Z → Prop
abbrev kn_L : Type := List (Nat × Value)
def kn_ws : List Cond := lw_tbl.filter goodWord
theorem kn_in {w : Cond} (i : Nat) (h : lw_tbl[i]? = some w) (g : goodWord w = true) : w ∈ kn_ws := List.mem_filter.mpr ⟨List.mem_of_getElem? h, g⟩
theorem kn_good {w1 w2 : Cond} (h : w2 ∈ kn_ws) : GoodIn (w1 :: kn_ws) (w2 :: kn_ws) := by
  intro w hw
  rcases List.mem_cons.mp hw with rfl | hw
  · exact ⟨List.mem_cons_of_mem _ h, good_of_word (List.mem_filter.mp h).2⟩
  · exact ⟨List.mem_cons_of_mem _ hw, good_of_word (List.mem_filter.mp hw).2⟩
theorem kn_good0 {w2 : Cond} (h : w2 ∈ kn_ws) : GoodIn kn_ws (w2 :: kn_ws) := by
  intro w hw
  rcases List.mem_cons.mp hw with rfl | hw
  · exact ⟨h, good_of_word (List.mem_filter.mp h).2⟩
  · exact ⟨hw, good_of_word (List.mem_filter.mp hw).2⟩
theorem kn_goods {ws : List Cond} (h : ∀ w ∈ ws, w ∈ kn_ws) {w2 : Cond} (h2 : w2 ∈ kn_ws) : GoodIn kn_ws (ws ++ (w2 :: kn_ws)) := by
  intro w hw
  rcases List.mem_append.mp hw with hw | hw
  · exact ⟨h w hw, good_of_word (List.mem_filter.mp (h w hw)).2⟩
  · exact kn_good0 h2 w hw
-- values
def kn_cv (ad ar : Nat → Nat) : Value → Value
  | .ref i => .ref (ad i)
  | .retAddr r => .ref (ar r)
  | .int x => .int x
  | .long x => .long x
  | .float x => .float x
  | .double x => .double x
  | .null => .null
theorem kn_cv_cat (ad ar : Nat → Nat) (v : Value) : (kn_cv ad ar v).category = v.category := by cases v <;> rfl
def kn_av (s : kn_S) (t : kn_T) (i k : Nat) : Option Value → Value
  | none => .int (s i k)
  | some (.long _) => .long (t i k)
  | some (.ref r) => .ref r
  | some _ => .null
def kn_fs (ad : Nat → Nat) (s : kn_S) (t : kn_T) (i : Nat) (ds : List (Option Value)) : List Value := ds.mapIdx (fun k d => kn_cv ad ad (kn_av s t i k d))
theorem kn_fs_len (ad : Nat → Nat) (s : kn_S) (t : kn_T) (i : Nat) (ds : List (Option Value)) : (kn_fs ad s t i ds).length = ds.length := by simp [kn_fs]
theorem kn_fs_get {ad : Nat → Nat} {s : kn_S} {t : kn_T} {i k : Nat} {ds : List (Option Value)} {d : Option Value} (h : ds[k]? = some d) : (kn_fs ad s t i ds)[k]? = some (kn_cv ad ad (kn_av s t i k d)) := by
  simp [kn_fs, List.getElem?_mapIdx, h]
def kn_rf (ad : Nat → Nat) : Value → Option Nat
  | .ref r => some (ad r)
  | _ => none
def kn_ent (cs : Nat → ClassId) (ad : Nat → Nat) (s : kn_S) (t : kn_T) (z : kn_Z) (i : Nat) : va_E := match z.2 i with
  | .inl (ci, ds) => .inr (ci, kn_fs ad s t i ds)
  | .inr (.inl (0, n)) => .inl (cs 0, n, .inl (s i))
  | .inr (.inl (1, n)) => .inl (cs 2, n, .inr (.inl (t i)))
  | .inr (.inl (_, n)) => .inl (cs 3, n, .inr (.inr (.inr (.inl (fun j => (t i j).toUInt64)))))
  | .inr (.inr l) => .inl (cs 1, l.length, .inr (.inr (.inr (.inr (fun j => kn_rf ad (l.getD j .null))))))
def kn_wl (cs : Nat → ClassId) (ad : Nat → Nat) (s : kn_S) (t : kn_T) (z : kn_Z) : va_W := (List.range z.1).map (fun i => (ad i, kn_ent cs ad s t z i))
theorem kn_wl_get {cs : Nat → ClassId} {ad : Nat → Nat} {s : kn_S} {t : kn_T} {z : kn_Z} {i : Nat} (h : i < z.1) : (kn_wl cs ad s t z)[i]? = some (ad i, kn_ent cs ad s t z i) := by
  simp [kn_wl, h]
theorem kn_wl_set {cs : Nat → ClassId} {ad : Nat → Nat} {s s' : kn_S} {t t' : kn_T} {z z' : kn_Z} {i : Nat} {e : va_E} (hz : z'.1 = z.1) (he : kn_ent cs ad s' t' z' i = e) (ho : ∀ j, j < z.1 → j ≠ i → kn_ent cs ad s' t' z' j = kn_ent cs ad s t z j) : (kn_wl cs ad s t z).set i (ad i, e) = kn_wl cs ad s' t' z' := by
  refine List.ext_getElem? fun j => ?_
  by_cases hj : j < z.1
  · rw [kn_wl_get (z := z') (by rw [hz]; exact hj)]
    by_cases hji : j = i
    · subst hji
      rw [List.getElem?_set_self (by simp [kn_wl, hj]), he]
    · rw [List.getElem?_set_ne (Ne.symm hji), kn_wl_get hj, ho j hj hji]
  · have h1 : ((kn_wl cs ad s t z).set i (ad i, e)).length ≤ j := by simp [kn_wl]; omega
    have h2 : (kn_wl cs ad s' t' z').length ≤ j := by simp [kn_wl, hz]; omega
    rw [List.getElem?_eq_none_iff.mpr h1, List.getElem?_eq_none_iff.mpr h2]
def kn_ty (cs : Nat → ClassId) : List (ClassId × FieldType) := [(cs 0, .int), (cs 1, .object "KnockControl$State")]
/-- every reference that a cell holds is to a cell -/
def kn_vz (z : kn_Z) : Prop := ∀ i, i < z.1 → match z.2 i with
  | .inl (_, ds) => ∀ r, some (Value.ref r) ∈ ds → r < z.1
  | .inr (.inl _) => True
  | .inr (.inr l) => ∀ r, Value.ref r ∈ l → r < z.1
def kn_A (z0 : Nat) : Nat → Prop := fun q => z0 ≤ q
def kn_Wd (D : va_G) (cs : Nat → ClassId) (z0 : Nat) (ad : Nat → Nat) (s : kn_S) (t : kn_T) (z : kn_Z) (H : Heap) : Prop :=
  va_P D vwCl (kn_wl cs ad s t z) H ∧ va_D (kn_A z0) (kn_wl cs ad s t z) ∧ kn_vz z
-- the read-only rows and what a throw needs
def kn_least : Nat → Int32
  | 0 => 16 | 1 => 1 | 2 => 1 | 3 => 20 | 4 => 0 | 5 => 1 | 6 => 0 | _ => 0
def kn_first : Nat → Int32
  | 0 => 40 | 1 => 10 | 2 => 20 | 3 => 150 | 4 => 40 | 5 => 30 | 6 => 10 | _ => 60
def kn_most : Nat → Int32
  | 0 => 128 | 1 => 50 | 2 => 200 | 3 => 200 | 4 => 200 | 5 => 500 | 6 => 1000 | _ => 100
def kn_rl (X : kn_X) : Nat → Nat
  | 0 => X.1
  | _ => 8
def kn_rv (X : kn_X) : Nat → Nat → Int32
  | 0 => X.2
  | 1 => kn_least
  | 2 => kn_first
  | _ => kn_most
/-- words that the tables hold but that go from state to state by rows of their own -/
def kn_isN : Cond → Bool
  | .castable _ _ => true
  | .fieldLinkNest _ _ _ _ _ _ => true
  | .methodLinkNest _ _ _ _ => true
  | .declares _ => true
  | .arrayOver (.object _) => true
  | _ => false
def kn_bad : List Cond := lw_tbl.filter kn_isN
theorem kn_inb {w : Cond} (i : Nat) (h : lw_tbl[i]? = some w) (g : kn_isN w = true) : w ∈ kn_bad := List.mem_filter.mpr ⟨List.mem_of_getElem? h, g⟩
theorem kn_bad_moved {w : Cond} (h : kn_isN w = true) {s U : State} (hW : s.WarmedH U.vm) (hw : va_Nw w s) : va_Nw w U := by
  unfold kn_isN at h
  split at h
  · exact va_Nw.warmC hW hw
  · exact va_Nw.warmF hW hw
  · exact va_Nw.warmM hW hw
  · exact va_Nw.warmD hW hw
  · exact va_AO.moved hW.alike hw
  · cases h
theorem kn_bad_use {w : Cond} (h : kn_isN w = true) {A : Array Value} {U : State} (hw : va_Nw w U) : w.before A U = true := by
  unfold kn_isN at h
  split at h
  · exact va_Nw.use rfl hw
  · exact va_Nw.use rfl hw
  · exact va_Nw.use rfl hw
  · exact va_Nw.use rfl hw
  · exact va_AO.use hw
  · cases h
def kn_Fx (X : kn_X) (z0 : Nat) (ar : Nat → Nat) (U : State) (H : Heap) : Prop :=
  (∀ r, r < 4 → va_T .int (ar r) (kn_rl X r) (fun j => .int (kn_rv X r j)) (kn_A z0) U H) ∧
  (va_Z "KnockControl" "LEAST_SETTING" "[I" (.ref (ar 1)) (kn_A z0) U H ∧ va_Z "KnockControl" "FIRST_SETTING" "[I" (.ref (ar 2)) (kn_A z0) U H ∧ va_Z "KnockControl" "MOST_SETTING" "[I" (.ref (ar 3)) (kn_A z0) U H) ∧
  (vx_Zq Bundle.tN "UNASSIGNED_STACK" Bundle.steD (kn_A z0) U H ∧ vx_Zq Bundle.tN "SUPPRESSED_SENTINEL" Bundle.listD (kn_A z0) U H) ∧
  ((∃ a, vk_R RX6 228 "an argument is out of range" a U) ∧ (∃ a, vk_R RX6 235 "there is no such place" a U) ∧ (∃ a, vk_R RX6 240 "not in this state" a U)) ∧
  (∀ w ∈ kn_bad, va_Nw w U) ∧ (va_Nc "java/lang/IllegalArgumentException" "java/lang/IndexOutOfBoundsException" U ∧ va_Nc "java/lang/IllegalStateException" "java/lang/IllegalArgumentException" U) ∧ z0 ≤ H.size
theorem kn_Fx.moved {X : kn_X} {z0 : Nat} {ar : Nat → Nat} {s U : State} {H : Heap} (hW : s.WarmedH U.vm) (h : kn_Fx X z0 ar s H) : kn_Fx X z0 ar U H := by
  obtain ⟨h1, ⟨h2, h3, h4⟩, ⟨h5, h6⟩, ⟨⟨a, h7⟩, ⟨b, h8⟩, ⟨c, h9⟩⟩, h10, ⟨h11, h12⟩, h13⟩ := h
  have hv := hW.alike
  exact ⟨fun r hr => (h1 r hr).moved hv, ⟨h2.moved hv, h3.moved hv, h4.moved hv⟩, ⟨vx_Zq.moved hv h5, vx_Zq.moved hv h6⟩, ⟨⟨a, vk_R.warm hW h7⟩, ⟨b, vk_R.warm hW h8⟩, ⟨c, vk_R.warm hW h9⟩⟩,
    fun w hw => kn_bad_moved (List.mem_filter.mp hw).2 hW (h10 w hw), ⟨va_Nc.moved hv h11, va_Nc.moved hv h12⟩, h13⟩
theorem kn_Fx.kept {X : kn_X} {z0 : Nat} {ar : Nat → Nat} {s : State} {H0 H : Heap} {locs : List Loc} (hS : va_S (kn_A z0) H0 H locs) (h : kn_Fx X z0 ar s H0) : kn_Fx X z0 ar s H := by
  obtain ⟨h1, ⟨h2, h3, h4⟩, ⟨h5, h6⟩, h7, h10, h11, h13⟩ := h
  exact ⟨fun r hr => (h1 r hr).kept hS.2.1, ⟨h2.kept hS.2.1, h3.kept hS.2.1, h4.kept hS.2.1⟩, ⟨vx_Zq.kept h5 hS.2.1, vx_Zq.kept h6 hS.2.1⟩, h7, h10, h11, Nat.le_trans h13 hS.1⟩
-- locals
def kn_lc (ad ar : Nat → Nat) (lv : kn_L) : kn_L := lv.map (fun q => (q.1, kn_cv ad ar q.2))
def kn_get : kn_L → Nat → Option Value
  | [], _ => none
  | (j, w) :: r, i => if j = i then some w else kn_get r i
theorem kn_get_mem : ∀ {lv : kn_L} {i : Nat} {v : Value}, kn_get lv i = some v → (i, v) ∈ lv
  | (j, w) :: r, i, v, h => by
    unfold kn_get at h
    by_cases hj : j = i
    · rw [if_pos hj] at h
      cases h
      rw [← hj]
      exact List.mem_cons_self
    · rw [if_neg hj] at h
      exact List.mem_cons_of_mem _ (kn_get_mem h)
theorem kn_loc {ls : Array Slot} {n : Nat} {ad ar : Nat → Nat} {lv : kn_L} {i : Nat} {v : Value} (hl : lv_has ls n (kn_lc ad ar lv)) (h : kn_get lv i = some v) : ls[i]? = some (.val (kn_cv ad ar v)) :=
  hl.2.2 (i, kn_cv ad ar v) (List.mem_map.mpr ⟨(i, v), kn_get_mem h, rfl⟩)
def kn_put (lv : kn_L) (i : Nat) (v : Value) : kn_L := (i, v) :: lv.filter (fun q => !(q.1 == i) && !(q.1 + 1 == i && q.2.category == 2))
def kn_put2 (lv : kn_L) (i : Nat) (v : Value) : kn_L := (i, v) :: lv.filter (fun q => !(q.1 == i) && (!(q.1 == i + 1) && !(q.1 + 1 == i && q.2.category == 2)))
theorem kn_put_lc (ad ar : Nat → Nat) (lv : kn_L) (i : Nat) (v : Value) : (i, kn_cv ad ar v) :: (kn_lc ad ar lv).filter (fun q => !(q.1 == i) && !(q.1 + 1 == i && q.2.category == 2)) = kn_lc ad ar (kn_put lv i v) := by
  simp only [kn_lc, kn_put, List.map_cons, List.filter_map]
  congr 2
  refine List.filter_congr fun q _ => ?_
  simp [Function.comp, kn_cv_cat]
theorem kn_put2_lc (ad ar : Nat → Nat) (lv : kn_L) (i : Nat) (v : Value) : (i, kn_cv ad ar v) :: (kn_lc ad ar lv).filter (fun q => !(q.1 == i) && (!(q.1 == i + 1) && !(q.1 + 1 == i && q.2.category == 2))) = kn_lc ad ar (kn_put2 lv i v) := by
  simp only [kn_lc, kn_put2, List.map_cons, List.filter_map]
  congr 2
  refine List.filter_congr fun q _ => ?_
  simp [Function.comp, kn_cv_cat]
theorem kn_lsub {ls : Array Slot} {n : Nat} {ad ar : Nat → Nat} {lv lv' : kn_L} (hl : lv_has ls n (kn_lc ad ar lv)) (h : ∀ q ∈ lv', q ∈ lv) : lv_has ls n (kn_lc ad ar lv') :=
  ⟨hl.1, hl.2.1, fun q hq => by
    obtain ⟨r, hr, rfl⟩ := List.mem_map.mp hq
    exact hl.2.2 _ (List.mem_map.mpr ⟨r, h r hr, rfl⟩)⟩
-- the frame
/-- what is fixed in a frame of M -/
def kn_C (X : kn_X) (M : kn_M) (D : va_G) (cs : Nat → ClassId) (z0 : Nat) (ar : Nat → Nat) (p : Program) (l : Launch) (R : Room) (s : State) (m : MethodId) (args : Array Value) (meth : Method) (c : Code) : Prop :=
  (p.tables.exec = Jvm.exec ∧ c.code = M.2.1 ∧ c.maxLocals = M.2.2.1 ∧ s.vm.findClass M.1.cls = some m.cls ∧ ∀ w ∈ kn_ws, w.before args s = true) ∧
  (l.stackTraces = false ∧ meth.sig.returnType = M.2.2.2.1 ∧ meth.locks = false ∧ c.exceptionTable.toList = tableOf M.2.2.2.2.1 ∧ (M.1.name = "<init>" → meth.name = "<init>")) ∧
  (M.2.2.2.2.2.1 ≤ R.frames ∧ M.2.2.2.2.2.2 ≤ R.locals) ∧ va_K D vwCl (kn_ty cs) s ∧ kn_Fx X z0 ar s s.heap
/-- addresses: those of the frame's start stay; without new cells all of them do -/
def kn_Ad (n0 : Nat) (a0 : Nat → Nat) (z : kn_Z) (ad : Nat → Nat) : Prop := n0 ≤ z.1 ∧ (∀ i, i < n0 → ad i = a0 i) ∧ (z.1 = n0 → ad = a0)
def kn_rok (M : kn_M) (I : Instr) (v : Option Value) : Prop := match I, v with
  | .ireturn, some (.int x) => ∃ ty, M.2.2.2.1 = some ty ∧ narrow ty (.int x) = .int x
  | .lreturn, some (.long _) => M.2.2.2.1 = some .long
  | .dreturn, some (.double _) => M.2.2.2.1 = some .double
  | .areturn, some .null => ∃ C, M.2.2.2.1 = some (.object C)
  | .areturn, some (.ref _) => ∃ C, M.2.2.2.1 = some (.object C)
  | .return_, none => M.2.2.2.1 = none
  | _, _ => False
/-- what an end of the frame gives -/
def kn_End (X : kn_X) (M : kn_M) (D : va_G) (cs : Nat → ClassId) (z0 : Nat) (ar : Nat → Nat) (p : Program) (l : Launch) (e : Env) (R : Room) (s : State) (m : MethodId) (args : Array Value) (below : List Frame) (meth : Method) (c : Code) (n0 : Nat) (a0 : Nat → Nat) (mc ms : Nat) (QF : State → Prop) (Q : kn_Q) : Prop :=
  (∀ (v : Option Value) (σ : kn_S) (τ : kn_T) (z : kn_Z) (ad : Nat → Nat) (H : Heap) (locs : List Loc) (ls : Array Slot) (cells slots pc : Nat) (I : Instr), decode M.2.1 pc = .ok (I, 1) → kn_rok M I v → Q (.inl v) σ τ z → kn_Ad n0 a0 z ad →
    kn_Wd D cs z0 ad σ τ z H → va_S (kn_A z0) s.heap H locs → cells ≤ mc → slots ≤ ms → W p l e R s m args below meth c H locs cells slots QF (F0 m pc ls ((v.map (kn_cv ad ar)).toList))) ∧
  (∀ (E : String) (σ : kn_S) (τ : kn_T) (z : kn_Z) (ad : Nat → Nat) (H : Heap) (locs : List Loc) (ls : Array Slot) (rest : List Value) (cells slots pc : Nat) (q : Addr) (ce : Cell), (∀ x ∈ c.exceptionTable.toList, covers x pc = false) → Q (.inr E) σ τ z → kn_Ad n0 a0 z ad →
    kn_Wd D cs z0 ad σ τ z H → va_S (kn_A z0) s.heap H locs → cells ≤ mc → slots ≤ ms → H[q]? = some ce → ce.vm = .none → s.vm.findClass E = some ce.cls → vx_W p l e R s m args below meth c H locs cells slots QF (F0 m pc ls rest) q)
def kn_Cx (X : kn_X) (M : kn_M) (D : va_G) (cs : Nat → ClassId) (z0 : Nat) (ar : Nat → Nat) (p : Program) (l : Launch) (e : Env) (R : Room) (s : State) (m : MethodId) (args : Array Value) (below : List Frame) (meth : Method) (c : Code) (n0 : Nat) (a0 : Nat → Nat) (mc ms : Nat) (QF : State → Prop) (Q : kn_Q) : Prop :=
  kn_C X M D cs z0 ar p l R s m args meth c ∧ kn_End X M D cs z0 ar p l e R s m args below meth c n0 a0 mc ms QF Q ∧ mc ≤ R.cells ∧ ms ≤ R.slots
def kn_At (M : kn_M) (lv : kn_L) (σ : kn_S) (τ : kn_T) (z : kn_Z) (c n : Nat) (D : va_G) (cs : Nat → ClassId) (z0 : Nat) (ar : Nat → Nat) (s : State) (n0 : Nat) (a0 : Nat → Nat) (mc ms : Nat) (ad : Nat → Nat) (H : Heap) (locs : List Loc) (ls : Array Slot) (cells slots : Nat) : Prop :=
  kn_Ad n0 a0 z ad ∧ (cells + c ≤ mc ∧ slots + n ≤ ms) ∧ kn_Wd D cs z0 ad σ τ z H ∧ va_S (kn_A z0) s.heap H locs ∧ lv_has ls M.2.2.1 (kn_lc ad ar lv)
/-- THE JUDGEMENT: from pc of M, with these locals, this stack and these data, with room for c cells of n slots, the frame comes to an end with Q -/
def kn_Go (X : kn_X) (M : kn_M) (pc : Nat) (lv : kn_L) (st : List Value) (σ : kn_S) (τ : kn_T) (z : kn_Z) (c n : Nat) (Q : kn_Q) : Prop :=
  ∀ (D : va_G) (cs : Nat → ClassId) (z0 : Nat) (ar : Nat → Nat) (p : Program) (l : Launch) (e : Env) (R : Room) (s : State) (m : MethodId) (args : Array Value) (below : List Frame) (meth : Method) (cd : Code) (n0 : Nat) (a0 : Nat → Nat) (mc ms : Nat) (QF : State → Prop),
    kn_Cx X M D cs z0 ar p l e R s m args below meth cd n0 a0 mc ms QF Q →
    ∀ (ad : Nat → Nat) (H : Heap) (locs : List Loc) (ls : Array Slot) (cells slots : Nat), kn_At M lv σ τ z c n D cs z0 ar s n0 a0 mc ms ad H locs ls cells slots →
      W p l e R s m args below meth cd H locs cells slots QF (F0 m pc ls (st.map (kn_cv ad ar)))
/-- .. the same, E having been thrown at pc -/
def kn_Th (X : kn_X) (M : kn_M) (pc : Nat) (lv : kn_L) (E : String) (σ : kn_S) (τ : kn_T) (z : kn_Z) (c n : Nat) (Q : kn_Q) : Prop :=
  ∀ (D : va_G) (cs : Nat → ClassId) (z0 : Nat) (ar : Nat → Nat) (p : Program) (l : Launch) (e : Env) (R : Room) (s : State) (m : MethodId) (args : Array Value) (below : List Frame) (meth : Method) (cd : Code) (n0 : Nat) (a0 : Nat → Nat) (mc ms : Nat) (QF : State → Prop),
    kn_Cx X M D cs z0 ar p l e R s m args below meth cd n0 a0 mc ms QF Q →
    ∀ (ad : Nat → Nat) (H : Heap) (locs : List Loc) (ls : Array Slot) (cells slots : Nat), kn_At M lv σ τ z c n D cs z0 ar s n0 a0 mc ms ad H locs ls cells slots →
      ∀ (q : Addr) (ce : Cell) (rest : List Value), H[q]? = some ce → ce.vm = .none → s.vm.findClass E = some ce.cls → vx_W p l e R s m args below meth cd H locs cells slots QF (F0 m pc ls rest) q
-- a method, called
def kn_w (M : kn_M) : Cond := match M.2.2.2.2.1 with
  | [] => .code M.1 M.2.1 M.2.2.1 M.2.2.2.1
  | hh => .codeWith M.1 M.2.1 M.2.2.1 M.2.2.2.1 hh
def kn_rm (M : kn_M) (c n : Nat) : Room := { frames := M.2.2.2.2.2.1, cells := c, slots := n, locals := M.2.2.2.2.2.2 }
def kn_Pc (X : kn_X) (D : va_G) (cs : Nat → ClassId) (z0 : Nat) (ar ad : Nat → Nat) (args : List Value) (σ : kn_S) (τ : kn_T) (z : kn_Z) : Array Value → State → Prop :=
  va_Pc (args.map (kn_cv ad ar)) (fun U => kn_Wd D cs z0 ad σ τ z U.heap ∧ va_K D vwCl (kn_ty cs) U ∧ kn_Fx X z0 ar U U.heap)
def kn_Qc (D : va_G) (cs : Nat → ClassId) (z0 : Nat) (ar ad0 : Nat → Nat) (n0 : Nat) (Q : kn_Q) : Array Value → State → Outcome → State → Prop := fun _ st oc t =>
  ∃ (v : Option Value) (ad : Nat → Nat) (σ : kn_S) (τ : kn_T) (z : kn_Z), oc = .returned (v.map (kn_cv ad ar)) ∧ Q (.inl v) σ τ z ∧ kn_Ad n0 ad0 z ad ∧ kn_Wd D cs z0 ad σ τ z t.heap ∧ va_F (kn_A z0) st t
def kn_XC (D : va_G) (cs : Nat → ClassId) (z0 : Nat) (ad0 : Nat → Nat) (n0 : Nat) (Q : kn_Q) : String → State → State → Prop := fun E st t =>
  ∃ (ad : Nat → Nat) (σ : kn_S) (τ : kn_T) (z : kn_Z), Q (.inr E) σ τ z ∧ kn_Ad n0 ad0 z ad ∧ kn_Wd D cs z0 ad σ τ z t.heap ∧ va_F (kn_A z0) st t
/-- M, called with these arguments over these data, with room for c cells of n slots, ends with Q -/
def kn_Ev (X : kn_X) (M : kn_M) (args : List Value) (σ : kn_S) (τ : kn_T) (z : kn_Z) (c n : Nat) (Q : kn_Q) : Prop :=
  ∀ (l : Launch) (D : va_G) (cs : Nat → ClassId) (z0 : Nat) (ar ad : Nat → Nat), l.stackTraces = false →
    vx_Met l M.1 (kn_w M :: kn_ws) (kn_rm M c n) (kn_Pc X D cs z0 ar ad args σ τ z) (kn_Qc D cs z0 ar ad z.1 Q) (kn_XC D cs z0 ad z.1 Q) c n (kn_A z0)

