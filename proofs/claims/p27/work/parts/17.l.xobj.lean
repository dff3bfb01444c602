/-! The making of objects: the law's other words -/
theorem mk_X9 : MIk yX9_init cX9_init 1 0 := ⟨cd_yX9_init, im_yX9_init, ini_X9, by decide +kernel, rfl, ⟨by decide +kernel, by decide +kernel, by decide +kernel⟩, by decide⟩
theorem mk_X10 : MIk yX10_init cX10_init 1 0 := ⟨cd_yX10_init, im_yX10_init, ini_X10, by decide +kernel, rfl, ⟨by decide +kernel, by decide +kernel, by decide +kernel⟩, by decide⟩
theorem mk_X8 : MIk yX8_init cX8_init 6 0 := ⟨cd_yX8_init, im_yX8_init, ini_X8, by decide +kernel, rfl, ⟨by decide +kernel, by decide +kernel, by decide +kernel⟩, by decide⟩
theorem mk_X4 : MIk yX4_init cX4_init 3 2 := ⟨cd_yX4_init, im_yX4_init, ini_X4, by decide +kernel, rfl, ⟨by decide +kernel, by decide +kernel, by decide +kernel⟩, by decide⟩
theorem mk_X5 : MIk yX5_init cX5_init 2 1 := ⟨cd_yX5_init, im_yX5_init, ini_X5, by decide +kernel, rfl, ⟨by decide +kernel, by decide +kernel, by decide +kernel⟩, by decide⟩
