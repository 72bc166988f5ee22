/-! ===== one call on a fresh object: cases of its arguments ===== -/
set_option maxRecDepth 100000 in
theorem ev_o0 : ev_all [ev_rg 1 0 4, ev_rg 2 0 3, ev_rg 3 0 8] (fun ds => ev_fin (ev_runT ev_tb 3000 (ev_xs 0 ds) fm_m99 ev_S0)) = true := by decide +kernel
theorem ev_g0 (sc : am_Sy) (h0 : sc.2 0 &&& 31 = Int32.ofNat 0) : ev_End sc 4 := ev_use ev_o0 (ev_ho (ev_rg_ok sc 1 (by decide) (by decide) (by decide)) (ev_ho (ev_rg_ok sc 2 (by decide) (by decide) (by decide)) (ev_ho (ev_rg_ok sc 3 (by decide) (by decide) (by decide)) (ev_ho_nil)))) h0
