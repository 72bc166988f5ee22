/-! ===== hops: checked ===== -/
set_option maxRecDepth 100000 in
theorem wh_t0_0_0 : [0, 1, 2].all (fun mc => wh_n mc 0 0) = true := by decide +kernel
set_option maxRecDepth 100000 in
theorem wh_t0_0_1 : [0, 1, 2].all (fun mc => wh_n mc 0 1) = true := by decide +kernel
set_option maxRecDepth 100000 in
theorem wh_t0_0_2 : [0, 1, 2].all (fun mc => wh_n mc 0 2) = true := by decide +kernel
set_option maxRecDepth 100000 in
theorem wh_t0_0_3 : [0, 1, 2].all (fun mc => wh_n mc 0 3) = true := by decide +kernel
set_option maxRecDepth 100000 in
theorem wh_t0_1_0 : [0, 1, 2].all (fun mc => wh_n mc 1 0) = true := by decide +kernel
set_option maxRecDepth 100000 in
theorem wh_t0_1_1 : [0, 1, 2].all (fun mc => wh_n mc 1 1) = true := by decide +kernel
set_option maxRecDepth 100000 in
theorem wh_t0_1_2 : [0, 1, 2].all (fun mc => wh_n mc 1 2) = true := by decide +kernel
set_option maxRecDepth 100000 in
theorem wh_t0_1_3 : [0, 1, 2].all (fun mc => wh_n mc 1 3) = true := by decide +kernel
set_option maxRecDepth 100000 in
theorem wh_t0_2_0 : [0, 1, 2].all (fun mc => wh_n mc 2 0) = true := by decide +kernel
set_option maxRecDepth 100000 in
theorem wh_t0_2_1 : [0, 1, 2].all (fun mc => wh_n mc 2 1) = true := by decide +kernel
set_option maxRecDepth 100000 in
theorem wh_t0_2_2 : [0, 1, 2].all (fun mc => wh_n mc 2 2) = true := by decide +kernel
set_option maxRecDepth 100000 in
theorem wh_t0_2_3 : [0, 1, 2].all (fun mc => wh_n mc 2 3) = true := by decide +kernel
set_option maxRecDepth 100000 in
theorem wh_t0_3_0 : [0, 1, 2].all (fun mc => wh_n mc 3 0) = true := by decide +kernel
set_option maxRecDepth 100000 in
theorem wh_t0_3_1 : [0, 1, 2].all (fun mc => wh_n mc 3 1) = true := by decide +kernel
set_option maxRecDepth 100000 in
theorem wh_t0_3_2 : [0, 1, 2].all (fun mc => wh_n mc 3 2) = true := by decide +kernel
set_option maxRecDepth 100000 in
theorem wh_t0_3_3 : [0, 1, 2].all (fun mc => wh_n mc 3 3) = true := by decide +kernel
set_option maxRecDepth 100000 in
theorem wh_t0_4_0 : [0, 1, 2].all (fun mc => wh_n mc 4 0) = true := by decide +kernel
set_option maxRecDepth 100000 in
theorem wh_t0_4_1 : [0, 1, 2].all (fun mc => wh_n mc 4 1) = true := by decide +kernel
set_option maxRecDepth 100000 in
theorem wh_t0_4_2 : [0, 1, 2].all (fun mc => wh_n mc 4 2) = true := by decide +kernel
set_option maxRecDepth 100000 in
theorem wh_t0_4_3 : [0, 1, 2].all (fun mc => wh_n mc 4 3) = true := by decide +kernel
set_option maxRecDepth 100000 in
theorem wh_t0_5_0 : [0, 1, 2].all (fun mc => wh_n mc 5 0) = true := by decide +kernel
set_option maxRecDepth 100000 in
theorem wh_t0_5_1 : [0, 1, 2].all (fun mc => wh_n mc 5 1) = true := by decide +kernel
set_option maxRecDepth 100000 in
theorem wh_t0_5_2 : [0, 1, 2].all (fun mc => wh_n mc 5 2) = true := by decide +kernel
set_option maxRecDepth 100000 in
theorem wh_t0_5_3 : [0, 1, 2].all (fun mc => wh_n mc 5 3) = true := by decide +kernel
