set_option maxRecDepth 100000 in
set_option maxHeartbeats 4000000 in
theorem refuses_at : tables_1[371]? = some ML_refuses.cwd := rfl
theorem refuses_gd : goodWord ML_refuses.cwd = true := rfl
theorem CL_238 : CS RL 238 ML_refuses 2 := ⟨⟨WL_tb 369 (by decide +kernel) (by decide +kernel), WL_tb 0 (by decide +kernel) (by decide +kernel), WL_tb 371 refuses_at refuses_gd, by decide +kernel, by decide +kernel⟩, rfl, WL_tb 370 (by decide +kernel) (by decide +kernel)⟩
