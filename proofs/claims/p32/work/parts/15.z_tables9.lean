-- the words by their places, the methods, the classes
theorem hc_X1 : kn_cf 0 RX1 TX1 4 tyX1 := ⟨rfl, kn_insub [188, 190, 192, 194] (by decide +kernel) (by decide +kernel), tyX1_ok, nmX1⟩
theorem hc_X2 : kn_cf 1 RX2 TX2 3 tyX2 := ⟨rfl, kn_insub [170, 172, 174] (by decide +kernel) (by decide +kernel), tyX2_ok, nmX2⟩
theorem hc_X3 : kn_cf 2 RX3 TX3 5 tyX3 := ⟨rfl, kn_insub [68, 70, 72, 74, 76] (by decide +kernel) (by decide +kernel), tyX3_ok, nmX3⟩
theorem hc_X4 : kn_cf 3 RX4 TX4 1 tyX4 := ⟨rfl, kn_insub [51] (by decide +kernel) (by decide +kernel), tyX4_ok, nmX4⟩
theorem hc_X5 : kn_cf 4 RX5 TX5 17 tyX5 := ⟨rfl, kn_insub [123, 125, 127, 129, 131, 133, 135, 137, 139, 141, 143, 145, 147, 149, 151, 153, 155] (by decide +kernel) (by decide +kernel), tyX5_ok, nmX5⟩
theorem hc_X6 : kn_cf 5 RX6 TX6 4 tyX6 := ⟨rfl, kn_insub [201, 203, 205, 207] (by decide +kernel) (by decide +kernel), tyX6_ok, nmX6⟩
theorem wOI : Cond.instanceMethod Lib.objectInit ∈ kn_ws ∧ Cond.code Lib.objectInit ⟨#[0xb1]⟩ 1 none ∈ kn_ws := ⟨kn_in 33 (by decide +kernel) (by decide +kernel), kn_in 34 (by decide +kernel) (by decide +kernel)⟩
