/-! ===== ticks of the class, 30 to 59 ===== -/
set_option maxRecDepth 100000 in
theorem ev_cb30 : ev_cc 30 = true := by decide +kernel
set_option maxRecDepth 100000 in
theorem ev_cb31 : ev_cc 31 = true := by decide +kernel
set_option maxRecDepth 100000 in
theorem ev_cb32 : ev_cc 32 = true := by decide +kernel
set_option maxRecDepth 100000 in
theorem ev_cb33 : ev_cc 33 = true := by decide +kernel
set_option maxRecDepth 100000 in
theorem ev_cb34 : ev_cc 34 = true := by decide +kernel
set_option maxRecDepth 100000 in
theorem ev_cb35 : ev_cc 35 = true := by decide +kernel
set_option maxRecDepth 100000 in
theorem ev_cb36 : ev_cc 36 = true := by decide +kernel
set_option maxRecDepth 100000 in
theorem ev_cb37 : ev_cc 37 = true := by decide +kernel
set_option maxRecDepth 100000 in
theorem ev_cb38 : ev_cc 38 = true := by decide +kernel
set_option maxRecDepth 100000 in
theorem ev_cb39 : ev_cc 39 = true := by decide +kernel
set_option maxRecDepth 100000 in
theorem ev_cb40 : ev_cc 40 = true := by decide +kernel
set_option maxRecDepth 100000 in
theorem ev_cb41 : ev_cc 41 = true := by decide +kernel
set_option maxRecDepth 100000 in
theorem ev_cb42 : ev_cc 42 = true := by decide +kernel
set_option maxRecDepth 100000 in
theorem ev_cb43 : ev_cc 43 = true := by decide +kernel
set_option maxRecDepth 100000 in
theorem ev_cb44 : ev_cc 44 = true := by decide +kernel
set_option maxRecDepth 100000 in
theorem ev_cb45 : ev_cc 45 = true := by decide +kernel
set_option maxRecDepth 100000 in
theorem ev_cb46 : ev_cc 46 = true := by decide +kernel
set_option maxRecDepth 100000 in
theorem ev_cb47 : ev_cc 47 = true := by decide +kernel
set_option maxRecDepth 100000 in
theorem ev_cb48 : ev_cc 48 = true := by decide +kernel
set_option maxRecDepth 100000 in
theorem ev_cb49 : ev_cc 49 = true := by decide +kernel
set_option maxRecDepth 100000 in
theorem ev_cb50 : ev_cc 50 = true := by decide +kernel
set_option maxRecDepth 100000 in
theorem ev_cb51 : ev_cc 51 = true := by decide +kernel
set_option maxRecDepth 100000 in
theorem ev_cb52 : ev_cc 52 = true := by decide +kernel
set_option maxRecDepth 100000 in
theorem ev_cb53 : ev_cc 53 = true := by decide +kernel
set_option maxRecDepth 100000 in
theorem ev_cb54 : ev_cc 54 = true := by decide +kernel
set_option maxRecDepth 100000 in
theorem ev_cb55 : ev_cc 55 = true := by decide +kernel
set_option maxRecDepth 100000 in
theorem ev_cb56 : ev_cc 56 = true := by decide +kernel
set_option maxRecDepth 100000 in
theorem ev_cb57 : ev_cc 57 = true := by decide +kernel
set_option maxRecDepth 100000 in
theorem ev_cb58 : ev_cc 58 = true := by decide +kernel
set_option maxRecDepth 100000 in
theorem ev_cb59 : ev_cc 59 = true := by decide +kernel
