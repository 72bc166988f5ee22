/-! ===== hops: checked ===== -/
set_option maxRecDepth 100000 in
theorem wh_t2_0_0 : [6, 7, 8].all (fun mc => wh_n mc 0 0) = true := by decide +kernel
set_option maxRecDepth 100000 in
theorem wh_t2_0_1 : [6, 7, 8].all (fun mc => wh_n mc 0 1) = true := by decide +kernel
set_option maxRecDepth 100000 in
theorem wh_t2_0_2 : [6, 7, 8].all (fun mc => wh_n mc 0 2) = true := by decide +kernel
set_option maxRecDepth 100000 in
theorem wh_t2_0_3 : [6, 7, 8].all (fun mc => wh_n mc 0 3) = true := by decide +kernel
set_option maxRecDepth 100000 in
theorem wh_t2_1_0 : [6, 7, 8].all (fun mc => wh_n mc 1 0) = true := by decide +kernel
set_option maxRecDepth 100000 in
theorem wh_t2_1_1 : [6, 7, 8].all (fun mc => wh_n mc 1 1) = true := by decide +kernel
set_option maxRecDepth 100000 in
theorem wh_t2_1_2 : [6, 7, 8].all (fun mc => wh_n mc 1 2) = true := by decide +kernel
set_option maxRecDepth 100000 in
theorem wh_t2_1_3 : [6, 7, 8].all (fun mc => wh_n mc 1 3) = true := by decide +kernel
set_option maxRecDepth 100000 in
theorem wh_t2_2_0 : [6, 7, 8].all (fun mc => wh_n mc 2 0) = true := by decide +kernel
set_option maxRecDepth 100000 in
theorem wh_t2_2_1 : [6, 7, 8].all (fun mc => wh_n mc 2 1) = true := by decide +kernel
set_option maxRecDepth 100000 in
theorem wh_t2_2_2 : [6, 7, 8].all (fun mc => wh_n mc 2 2) = true := by decide +kernel
set_option maxRecDepth 100000 in
theorem wh_t2_2_3 : [6, 7, 8].all (fun mc => wh_n mc 2 3) = true := by decide +kernel
set_option maxRecDepth 100000 in
theorem wh_t2_3_0 : [6, 7, 8].all (fun mc => wh_n mc 3 0) = true := by decide +kernel
set_option maxRecDepth 100000 in
theorem wh_t2_3_1 : [6, 7, 8].all (fun mc => wh_n mc 3 1) = true := by decide +kernel
set_option maxRecDepth 100000 in
theorem wh_t2_3_2 : [6, 7, 8].all (fun mc => wh_n mc 3 2) = true := by decide +kernel
set_option maxRecDepth 100000 in
theorem wh_t2_3_3 : [6, 7, 8].all (fun mc => wh_n mc 3 3) = true := by decide +kernel
set_option maxRecDepth 100000 in
theorem wh_t2_4_0 : [6, 7, 8].all (fun mc => wh_n mc 4 0) = true := by decide +kernel
set_option maxRecDepth 100000 in
theorem wh_t2_4_1 : [6, 7, 8].all (fun mc => wh_n mc 4 1) = true := by decide +kernel
set_option maxRecDepth 100000 in
theorem wh_t2_4_2 : [6, 7, 8].all (fun mc => wh_n mc 4 2) = true := by decide +kernel
set_option maxRecDepth 100000 in
theorem wh_t2_4_3 : [6, 7, 8].all (fun mc => wh_n mc 4 3) = true := by decide +kernel
set_option maxRecDepth 100000 in
theorem wh_t2_5_0 : [6, 7, 8].all (fun mc => wh_n mc 5 0) = true := by decide +kernel
set_option maxRecDepth 100000 in
theorem wh_t2_5_1 : [6, 7, 8].all (fun mc => wh_n mc 5 1) = true := by decide +kernel
set_option maxRecDepth 100000 in
theorem wh_t2_5_2 : [6, 7, 8].all (fun mc => wh_n mc 5 2) = true := by decide +kernel
set_option maxRecDepth 100000 in
theorem wh_t2_5_3 : [6, 7, 8].all (fun mc => wh_n mc 5 3) = true := by decide +kernel
