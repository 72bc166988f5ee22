/-! ===== ticks of the model, 20 to 39 ===== -/
set_option maxRecDepth 100000 in
theorem ev_mb20 : ev_mc 20 = true := by decide +kernel
set_option maxRecDepth 100000 in
theorem ev_mb21 : ev_mc 21 = true := by decide +kernel
set_option maxRecDepth 100000 in
theorem ev_mb22 : ev_mc 22 = true := by decide +kernel
set_option maxRecDepth 100000 in
theorem ev_mb23 : ev_mc 23 = true := by decide +kernel
set_option maxRecDepth 100000 in
theorem ev_mb24 : ev_mc 24 = true := by decide +kernel
set_option maxRecDepth 100000 in
theorem ev_mb25 : ev_mc 25 = true := by decide +kernel
set_option maxRecDepth 100000 in
theorem ev_mb26 : ev_mc 26 = true := by decide +kernel
set_option maxRecDepth 100000 in
theorem ev_mb27 : ev_mc 27 = true := by decide +kernel
set_option maxRecDepth 100000 in
theorem ev_mb28 : ev_mc 28 = true := by decide +kernel
set_option maxRecDepth 100000 in
theorem ev_mb29 : ev_mc 29 = true := by decide +kernel
set_option maxRecDepth 100000 in
theorem ev_mb30 : ev_mc 30 = true := by decide +kernel
set_option maxRecDepth 100000 in
theorem ev_mb31 : ev_mc 31 = true := by decide +kernel
set_option maxRecDepth 100000 in
theorem ev_mb32 : ev_mc 32 = true := by decide +kernel
set_option maxRecDepth 100000 in
theorem ev_mb33 : ev_mc 33 = true := by decide +kernel
set_option maxRecDepth 100000 in
theorem ev_mb34 : ev_mc 34 = true := by decide +kernel
set_option maxRecDepth 100000 in
theorem ev_mb35 : ev_mc 35 = true := by decide +kernel
set_option maxRecDepth 100000 in
theorem ev_mb36 : ev_mc 36 = true := by decide +kernel
set_option maxRecDepth 100000 in
theorem ev_mb37 : ev_mc 37 = true := by decide +kernel
set_option maxRecDepth 100000 in
theorem ev_mb38 : ev_mc 38 = true := by decide +kernel
set_option maxRecDepth 100000 in
theorem ev_mb39 : ev_mc 39 = true := by decide +kernel
