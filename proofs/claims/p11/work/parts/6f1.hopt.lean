/-! ===== hops: checked ===== -/
set_option maxRecDepth 100000 in
theorem wh_t1_0_0 : [3, 4, 5].all (fun mc => wh_n mc 0 0) = true := by decide +kernel
set_option maxRecDepth 100000 in
theorem wh_t1_0_1 : [3, 4, 5].all (fun mc => wh_n mc 0 1) = true := by decide +kernel
set_option maxRecDepth 100000 in
theorem wh_t1_0_2 : [3, 4, 5].all (fun mc => wh_n mc 0 2) = true := by decide +kernel
set_option maxRecDepth 100000 in
theorem wh_t1_0_3 : [3, 4, 5].all (fun mc => wh_n mc 0 3) = true := by decide +kernel
set_option maxRecDepth 100000 in
theorem wh_t1_1_0 : [3, 4, 5].all (fun mc => wh_n mc 1 0) = true := by decide +kernel
set_option maxRecDepth 100000 in
theorem wh_t1_1_1 : [3, 4, 5].all (fun mc => wh_n mc 1 1) = true := by decide +kernel
set_option maxRecDepth 100000 in
theorem wh_t1_1_2 : [3, 4, 5].all (fun mc => wh_n mc 1 2) = true := by decide +kernel
set_option maxRecDepth 100000 in
theorem wh_t1_1_3 : [3, 4, 5].all (fun mc => wh_n mc 1 3) = true := by decide +kernel
set_option maxRecDepth 100000 in
theorem wh_t1_2_0 : [3, 4, 5].all (fun mc => wh_n mc 2 0) = true := by decide +kernel
set_option maxRecDepth 100000 in
theorem wh_t1_2_1 : [3, 4, 5].all (fun mc => wh_n mc 2 1) = true := by decide +kernel
set_option maxRecDepth 100000 in
theorem wh_t1_2_2 : [3, 4, 5].all (fun mc => wh_n mc 2 2) = true := by decide +kernel
set_option maxRecDepth 100000 in
theorem wh_t1_2_3 : [3, 4, 5].all (fun mc => wh_n mc 2 3) = true := by decide +kernel
set_option maxRecDepth 100000 in
theorem wh_t1_3_0 : [3, 4, 5].all (fun mc => wh_n mc 3 0) = true := by decide +kernel
set_option maxRecDepth 100000 in
theorem wh_t1_3_1 : [3, 4, 5].all (fun mc => wh_n mc 3 1) = true := by decide +kernel
set_option maxRecDepth 100000 in
theorem wh_t1_3_2 : [3, 4, 5].all (fun mc => wh_n mc 3 2) = true := by decide +kernel
set_option maxRecDepth 100000 in
theorem wh_t1_3_3 : [3, 4, 5].all (fun mc => wh_n mc 3 3) = true := by decide +kernel
set_option maxRecDepth 100000 in
theorem wh_t1_4_0 : [3, 4, 5].all (fun mc => wh_n mc 4 0) = true := by decide +kernel
set_option maxRecDepth 100000 in
theorem wh_t1_4_1 : [3, 4, 5].all (fun mc => wh_n mc 4 1) = true := by decide +kernel
set_option maxRecDepth 100000 in
theorem wh_t1_4_2 : [3, 4, 5].all (fun mc => wh_n mc 4 2) = true := by decide +kernel
set_option maxRecDepth 100000 in
theorem wh_t1_4_3 : [3, 4, 5].all (fun mc => wh_n mc 4 3) = true := by decide +kernel
set_option maxRecDepth 100000 in
theorem wh_t1_5_0 : [3, 4, 5].all (fun mc => wh_n mc 5 0) = true := by decide +kernel
set_option maxRecDepth 100000 in
theorem wh_t1_5_1 : [3, 4, 5].all (fun mc => wh_n mc 5 1) = true := by decide +kernel
set_option maxRecDepth 100000 in
theorem wh_t1_5_2 : [3, 4, 5].all (fun mc => wh_n mc 5 2) = true := by decide +kernel
set_option maxRecDepth 100000 in
theorem wh_t1_5_3 : [3, 4, 5].all (fun mc => wh_n mc 5 3) = true := by decide +kernel
