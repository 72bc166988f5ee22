/-! ===== ticks of the class, 30 to 59 ===== -/
set_option maxRecDepth 100000 in
theorem ev_cb3 : ((List.range 10).all fun i => ev_cc (Nat.add 30 i)) = true := by decide +kernel
set_option maxRecDepth 100000 in
theorem ev_cb4 : ((List.range 10).all fun i => ev_cc (Nat.add 40 i)) = true := by decide +kernel
set_option maxRecDepth 100000 in
theorem ev_cb5 : ((List.range 10).all fun i => ev_cc (Nat.add 50 i)) = true := by decide +kernel
