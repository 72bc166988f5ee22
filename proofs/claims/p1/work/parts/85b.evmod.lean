/-! ===== ticks of the model, 0 to 19 ===== -/
set_option maxRecDepth 100000 in
theorem ev_mb0 : ev_mc 0 = true := by decide +kernel
set_option maxRecDepth 100000 in
theorem ev_mb1 : ev_mc 1 = true := by decide +kernel
set_option maxRecDepth 100000 in
theorem ev_mb2 : ev_mc 2 = true := by decide +kernel
set_option maxRecDepth 100000 in
theorem ev_mb3 : ev_mc 3 = true := by decide +kernel
set_option maxRecDepth 100000 in
theorem ev_mb4 : ev_mc 4 = true := by decide +kernel
set_option maxRecDepth 100000 in
theorem ev_mb5 : ev_mc 5 = true := by decide +kernel
set_option maxRecDepth 100000 in
theorem ev_mb6 : ev_mc 6 = true := by decide +kernel
set_option maxRecDepth 100000 in
theorem ev_mb7 : ev_mc 7 = true := by decide +kernel
set_option maxRecDepth 100000 in
theorem ev_mb8 : ev_mc 8 = true := by decide +kernel
set_option maxRecDepth 100000 in
theorem ev_mb9 : ev_mc 9 = true := by decide +kernel
set_option maxRecDepth 100000 in
theorem ev_mb10 : ev_mc 10 = true := by decide +kernel
set_option maxRecDepth 100000 in
theorem ev_mb11 : ev_mc 11 = true := by decide +kernel
set_option maxRecDepth 100000 in
theorem ev_mb12 : ev_mc 12 = true := by decide +kernel
set_option maxRecDepth 100000 in
theorem ev_mb13 : ev_mc 13 = true := by decide +kernel
set_option maxRecDepth 100000 in
theorem ev_mb14 : ev_mc 14 = true := by decide +kernel
set_option maxRecDepth 100000 in
theorem ev_mb15 : ev_mc 15 = true := by decide +kernel
set_option maxRecDepth 100000 in
theorem ev_mb16 : ev_mc 16 = true := by decide +kernel
set_option maxRecDepth 100000 in
theorem ev_mb17 : ev_mc 17 = true := by decide +kernel
set_option maxRecDepth 100000 in
theorem ev_mb18 : ev_mc 18 = true := by decide +kernel
set_option maxRecDepth 100000 in
theorem ev_mb19 : ev_mc 19 = true := by decide +kernel
