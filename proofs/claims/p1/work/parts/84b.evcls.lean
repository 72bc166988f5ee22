/-! ===== ticks of the class, 0 to 29 ===== -/
set_option maxRecDepth 100000 in
theorem ev_cb0 : ((List.range 10).all fun i => ev_cc (Nat.add 0 i)) = true := by decide +kernel
set_option maxRecDepth 100000 in
theorem ev_cb1 : ((List.range 10).all fun i => ev_cc (Nat.add 10 i)) = true := by decide +kernel
set_option maxRecDepth 100000 in
theorem ev_cb2 : ((List.range 10).all fun i => ev_cc (Nat.add 20 i)) = true := by decide +kernel
