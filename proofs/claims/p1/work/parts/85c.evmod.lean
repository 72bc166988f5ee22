/-! ===== ticks of the model, 20 to 39 ===== -/
set_option maxRecDepth 100000 in
theorem ev_mb2 : ((List.range 10).all fun i => ev_mc (Nat.add 20 i)) = true := by decide +kernel
set_option maxRecDepth 100000 in
theorem ev_mb3 : ((List.range 10).all fun i => ev_mc (Nat.add 30 i)) = true := by decide +kernel
