set_option maxRecDepth 1000000 in
theorem yc_L_runs : jYC yL_runs cL_runs 19 (some .int) 8 := ⟨tb_in 680 rfl rfl, inL, by decide +kernel⟩
set_option maxRecDepth 1000000 in
theorem yc_L_changes : jYC yL_changes cL_changes 12 (some .boolean) 8 := ⟨tb_in 325 rfl rfl, inL, by decide +kernel⟩
