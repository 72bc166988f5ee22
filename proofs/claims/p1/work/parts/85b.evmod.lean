/-! ===== ticks of the model, 0 to 19 ===== -/
set_option maxRecDepth 100000 in
theorem ev_mb0 : ((List.range 10).all fun i => ev_mc (Nat.add 0 i)) = true := by decide +kernel
set_option maxRecDepth 100000 in
theorem ev_mb1 : ((List.range 10).all fun i => ev_mc (Nat.add 10 i)) = true := by decide +kernel
