-- the words by their places, the methods, the classes
abbrev ML_lowestOctane : kn_M := (yL_lowestOctane, cL_lowestOctane, 6, some .int, [(0, 9, 12, 15)], 8, 174)
theorem mm_L_lowestOctane : kn_mSH ML_lowestOctane 4 := ⟨by simp, (kn_in 667 (by decide +kernel) (by decide +kernel)), ⟨(kn_in 666 (by decide +kernel) (by decide +kernel)), (kn_in 12 (by decide +kernel) (by decide +kernel))⟩, ⟨by decide, by decide, by decide +kernel⟩⟩
abbrev ML_append : kn_M := (yL_append, cL_append, 4, some .int, [(0, 6, 9, 15), (0, 6, 13, 83)], 8, 123)
theorem mm_L_append : kn_mSH ML_append 2 := ⟨by simp, (kn_in 678 (by decide +kernel) (by decide +kernel)), ⟨(kn_in 677 (by decide +kernel) (by decide +kernel)), (kn_in 12 (by decide +kernel) (by decide +kernel))⟩, ⟨by decide, by decide, by decide +kernel⟩⟩
abbrev ML_undo : kn_M := (yL_undo, cL_undo, 3, some .int, [(0, 5, 8, 83)], 8, 127)
theorem mm_L_undo : kn_mSH ML_undo 1 := ⟨by simp, (kn_in 499 (by decide +kernel) (by decide +kernel)), ⟨(kn_in 498 (by decide +kernel) (by decide +kernel)), (kn_in 12 (by decide +kernel) (by decide +kernel))⟩, ⟨by decide, by decide, by decide +kernel⟩⟩
abbrev ML_print : kn_M := (yL_print, cL_print, 5, some .long, [], 9, 148)
theorem mm_L_print : kn_mS ML_print 1 := ⟨rfl, (kn_in 535 (by decide +kernel) (by decide +kernel)), ⟨(kn_in 534 (by decide +kernel) (by decide +kernel)), (kn_in 12 (by decide +kernel) (by decide +kernel))⟩, ⟨by decide, by decide, by decide +kernel⟩⟩
abbrev ML_areFit : kn_M := (yL_areFit, cL_areFit, 8, some .boolean, [], 9, 156)
