-- the words by their places, the methods, the classes
set_option maxRecDepth 100000 in
set_option maxHeartbeats 4000000 in
theorem wCo_L_areFit : lw_tbl[694]? = some (kn_w ML_areFit) := by rfl
theorem mm_L_areFit : kn_mS ML_areFit 2 := ⟨rfl, (kn_in 694 wCo_L_areFit (by decide +kernel)), ⟨(kn_in 693 (by decide +kernel) (by decide +kernel)), (kn_in 12 (by decide +kernel) (by decide +kernel))⟩, ⟨by decide, by decide, by decide +kernel⟩⟩
