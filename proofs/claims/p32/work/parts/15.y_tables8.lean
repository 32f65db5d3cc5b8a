-- the words by their places, the methods, the classes
abbrev ML_refused : kn_M := (yL_refused, cL_refused, 4, some .boolean, [], 10, 199)
theorem mm_L_refused : kn_mS ML_refused 1 := ⟨rfl, (kn_in 611 (by decide +kernel) (by decide +kernel)), ⟨(kn_in 610 (by decide +kernel) (by decide +kernel)), (kn_in 12 (by decide +kernel) (by decide +kernel))⟩, ⟨by decide, by decide, by decide +kernel⟩⟩
abbrev ML_isLoud : kn_M := (yL_isLoud, cL_isLoud, 14, some .boolean, [], 10, 172)
theorem mm_L_isLoud : kn_mS ML_isLoud 5 := ⟨rfl, (kn_in 707 (by decide +kernel) (by decide +kernel)), ⟨(kn_in 706 (by decide +kernel) (by decide +kernel)), (kn_in 12 (by decide +kernel) (by decide +kernel))⟩, ⟨by decide, by decide, by decide +kernel⟩⟩
abbrev ML_isAnew : kn_M := (yL_isAnew, cL_isAnew, 8, some .boolean, [], 10, 172)
theorem mm_L_isAnew : kn_mS ML_isAnew 2 := ⟨rfl, (kn_in 710 (by decide +kernel) (by decide +kernel)), ⟨(kn_in 709 (by decide +kernel) (by decide +kernel)), (kn_in 12 (by decide +kernel) (by decide +kernel))⟩, ⟨by decide, by decide, by decide +kernel⟩⟩
abbrev ML_isSplit : kn_M := (yL_isSplit, cL_isSplit, 14, some .boolean, [], 10, 199)
theorem mm_L_isSplit : kn_mS ML_isSplit 6 := ⟨rfl, (kn_in 728 (by decide +kernel) (by decide +kernel)), ⟨(kn_in 727 (by decide +kernel) (by decide +kernel)), (kn_in 12 (by decide +kernel) (by decide +kernel))⟩, ⟨by decide, by decide, by decide +kernel⟩⟩
abbrev ML_law : kn_M := (yL_law, cL_law, 9, some .boolean, [], 11, 232)
theorem kn_insub {ws : List Cond} (ps : List Nat) (h : ws = ps.filterMap (fun i => lw_tbl[i]?)) (g : ws.all goodWord = true) : ∀ w ∈ ws, w ∈ kn_ws := by
  intro w hw
  have hg := List.all_eq_true.mp g w hw
  rw [h] at hw
  obtain ⟨i, -, hi⟩ := List.mem_filterMap.mp hw
  exact kn_in i hi hg
