-- the words by their places, the methods, the classes
theorem mm_L_extreme : kn_mSH ML_extreme 4 := ⟨by simp, (kn_in 635 (by decide +kernel) (by decide +kernel)), ⟨(kn_in 634 (by decide +kernel) (by decide +kernel)), (kn_in 12 (by decide +kernel) (by decide +kernel))⟩, ⟨by decide, by decide, by decide +kernel⟩⟩
abbrev ML_event : kn_M := (yL_event, cL_event, 5, some .int, [(0, 7, 10, 29), (0, 7, 15, 15)], 8, 124)
theorem mm_L_event : kn_mSH ML_event 3 := ⟨by simp, (kn_in 599 (by decide +kernel) (by decide +kernel)), ⟨(kn_in 598 (by decide +kernel) (by decide +kernel)), (kn_in 12 (by decide +kernel) (by decide +kernel))⟩, ⟨by decide, by decide, by decide +kernel⟩⟩
abbrev ML_eventsOf : kn_M := (yL_eventsOf, cL_eventsOf, 4, some .int, [(0, 6, 9, 15)], 8, 125)
theorem mm_L_eventsOf : kn_mSH ML_eventsOf 2 := ⟨by simp, (kn_in 644 (by decide +kernel) (by decide +kernel)), ⟨(kn_in 643 (by decide +kernel) (by decide +kernel)), (kn_in 12 (by decide +kernel) (by decide +kernel))⟩, ⟨by decide, by decide, by decide +kernel⟩⟩
abbrev ML_limit : kn_M := (yL_limit, cL_limit, 7, some .int, [(0, 11, 14, 29), (0, 11, 19, 15)], 8, 127)
theorem mm_L_limit : kn_mSH ML_limit 5 := ⟨by simp, (kn_in 651 (by decide +kernel) (by decide +kernel)), ⟨(kn_in 650 (by decide +kernel) (by decide +kernel)), (kn_in 12 (by decide +kernel) (by decide +kernel))⟩, ⟨by decide, by decide, by decide +kernel⟩⟩
abbrev ML_quietAfter : kn_M := (yL_quietAfter, cL_quietAfter, 6, some .int, [(0, 9, 12, 15)], 8, 151)
theorem mm_L_quietAfter : kn_mSH ML_quietAfter 4 := ⟨by simp, (kn_in 659 (by decide +kernel) (by decide +kernel)), ⟨(kn_in 658 (by decide +kernel) (by decide +kernel)), (kn_in 12 (by decide +kernel) (by decide +kernel))⟩, ⟨by decide, by decide, by decide +kernel⟩⟩
