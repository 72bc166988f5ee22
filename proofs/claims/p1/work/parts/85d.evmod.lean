/-! ===== ticks of the model, 40 to 59 ===== -/
set_option maxRecDepth 100000 in
theorem ev_mb4 : ((List.range 10).all fun i => ev_mc (Nat.add 40 i)) = true := by decide +kernel
set_option maxRecDepth 100000 in
theorem ev_mb5 : ((List.range 10).all fun i => ev_mc (Nat.add 50 i)) = true := by decide +kernel
