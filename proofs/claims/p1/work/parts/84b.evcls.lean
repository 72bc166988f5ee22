/-! ===== ticks of the class, 0 to 29 ===== -/
set_option maxRecDepth 100000 in
theorem ev_cb0 : ev_cc 0 = true := by decide +kernel
set_option maxRecDepth 100000 in
theorem ev_cb1 : ev_cc 1 = true := by decide +kernel
set_option maxRecDepth 100000 in
theorem ev_cb2 : ev_cc 2 = true := by decide +kernel
set_option maxRecDepth 100000 in
theorem ev_cb3 : ev_cc 3 = true := by decide +kernel
set_option maxRecDepth 100000 in
theorem ev_cb4 : ev_cc 4 = true := by decide +kernel
set_option maxRecDepth 100000 in
theorem ev_cb5 : ev_cc 5 = true := by decide +kernel
set_option maxRecDepth 100000 in
theorem ev_cb6 : ev_cc 6 = true := by decide +kernel
set_option maxRecDepth 100000 in
theorem ev_cb7 : ev_cc 7 = true := by decide +kernel
set_option maxRecDepth 100000 in
theorem ev_cb8 : ev_cc 8 = true := by decide +kernel
set_option maxRecDepth 100000 in
theorem ev_cb9 : ev_cc 9 = true := by decide +kernel
set_option maxRecDepth 100000 in
theorem ev_cb10 : ev_cc 10 = true := by decide +kernel
set_option maxRecDepth 100000 in
theorem ev_cb11 : ev_cc 11 = true := by decide +kernel
set_option maxRecDepth 100000 in
theorem ev_cb12 : ev_cc 12 = true := by decide +kernel
set_option maxRecDepth 100000 in
theorem ev_cb13 : ev_cc 13 = true := by decide +kernel
set_option maxRecDepth 100000 in
theorem ev_cb14 : ev_cc 14 = true := by decide +kernel
set_option maxRecDepth 100000 in
theorem ev_cb15 : ev_cc 15 = true := by decide +kernel
set_option maxRecDepth 100000 in
theorem ev_cb16 : ev_cc 16 = true := by decide +kernel
set_option maxRecDepth 100000 in
theorem ev_cb17 : ev_cc 17 = true := by decide +kernel
set_option maxRecDepth 100000 in
theorem ev_cb18 : ev_cc 18 = true := by decide +kernel
set_option maxRecDepth 100000 in
theorem ev_cb19 : ev_cc 19 = true := by decide +kernel
set_option maxRecDepth 100000 in
theorem ev_cb20 : ev_cc 20 = true := by decide +kernel
set_option maxRecDepth 100000 in
theorem ev_cb21 : ev_cc 21 = true := by decide +kernel
set_option maxRecDepth 100000 in
theorem ev_cb22 : ev_cc 22 = true := by decide +kernel
set_option maxRecDepth 100000 in
theorem ev_cb23 : ev_cc 23 = true := by decide +kernel
set_option maxRecDepth 100000 in
theorem ev_cb24 : ev_cc 24 = true := by decide +kernel
set_option maxRecDepth 100000 in
theorem ev_cb25 : ev_cc 25 = true := by decide +kernel
set_option maxRecDepth 100000 in
theorem ev_cb26 : ev_cc 26 = true := by decide +kernel
set_option maxRecDepth 100000 in
theorem ev_cb27 : ev_cc 27 = true := by decide +kernel
set_option maxRecDepth 100000 in
theorem ev_cb28 : ev_cc 28 = true := by decide +kernel
set_option maxRecDepth 100000 in
theorem ev_cb29 : ev_cc 29 = true := by decide +kernel
