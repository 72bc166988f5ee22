/-! ===== ticks of the model, 40 to 59 ===== -/
set_option maxRecDepth 100000 in
theorem ev_mb40 : ev_mc 40 = true := by decide +kernel
set_option maxRecDepth 100000 in
theorem ev_mb41 : ev_mc 41 = true := by decide +kernel
set_option maxRecDepth 100000 in
theorem ev_mb42 : ev_mc 42 = true := by decide +kernel
set_option maxRecDepth 100000 in
theorem ev_mb43 : ev_mc 43 = true := by decide +kernel
set_option maxRecDepth 100000 in
theorem ev_mb44 : ev_mc 44 = true := by decide +kernel
set_option maxRecDepth 100000 in
theorem ev_mb45 : ev_mc 45 = true := by decide +kernel
set_option maxRecDepth 100000 in
theorem ev_mb46 : ev_mc 46 = true := by decide +kernel
set_option maxRecDepth 100000 in
theorem ev_mb47 : ev_mc 47 = true := by decide +kernel
set_option maxRecDepth 100000 in
theorem ev_mb48 : ev_mc 48 = true := by decide +kernel
set_option maxRecDepth 100000 in
theorem ev_mb49 : ev_mc 49 = true := by decide +kernel
set_option maxRecDepth 100000 in
theorem ev_mb50 : ev_mc 50 = true := by decide +kernel
set_option maxRecDepth 100000 in
theorem ev_mb51 : ev_mc 51 = true := by decide +kernel
set_option maxRecDepth 100000 in
theorem ev_mb52 : ev_mc 52 = true := by decide +kernel
set_option maxRecDepth 100000 in
theorem ev_mb53 : ev_mc 53 = true := by decide +kernel
set_option maxRecDepth 100000 in
theorem ev_mb54 : ev_mc 54 = true := by decide +kernel
set_option maxRecDepth 100000 in
theorem ev_mb55 : ev_mc 55 = true := by decide +kernel
set_option maxRecDepth 100000 in
theorem ev_mb56 : ev_mc 56 = true := by decide +kernel
set_option maxRecDepth 100000 in
theorem ev_mb57 : ev_mc 57 = true := by decide +kernel
set_option maxRecDepth 100000 in
theorem ev_mb58 : ev_mc 58 = true := by decide +kernel
set_option maxRecDepth 100000 in
theorem ev_mb59 : ev_mc 59 = true := by decide +kernel
