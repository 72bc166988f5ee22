/-! ===== one call on a fresh object: cases of its arguments ===== -/
set_option maxRecDepth 100000 in
theorem ev_o1 : ev_all [ev_rg 1 0 0, ev_rg 2 0 4] (fun ds => ev_fin (ev_runT ev_tb 3000 (ev_xs 1 ds) fm_m99 ev_S0)) = true := by decide +kernel
theorem ev_g1 (sc : am_Sy) (h0 : sc.2 0 &&& 31 = Int32.ofNat 1) : ev_End sc 4 := ev_use ev_o1 (ev_ho (ev_rg_ok sc 1 (by decide) (by decide) (by decide)) (ev_ho (ev_rg_ok sc 2 (by decide) (by decide) (by decide)) (ev_ho_nil))) h0
set_option maxRecDepth 100000 in
theorem ev_o2 : ev_all [ev_rg 1 0 0, ev_rg 2 0 8] (fun ds => ev_fin (ev_runT ev_tb 3000 (ev_xs 2 ds) fm_m99 ev_S0)) = true := by decide +kernel
theorem ev_g2 (sc : am_Sy) (h0 : sc.2 0 &&& 31 = Int32.ofNat 2) : ev_End sc 4 := ev_use ev_o2 (ev_ho (ev_rg_ok sc 1 (by decide) (by decide) (by decide)) (ev_ho (ev_rg_ok sc 2 (by decide) (by decide) (by decide)) (ev_ho_nil))) h0
set_option maxRecDepth 100000 in
theorem ev_o3 : ev_all [ev_rg 1 0 8, ev_bo 2] (fun ds => ev_fin (ev_runT ev_tb 3000 (ev_xs 3 ds) fm_m99 ev_S0)) = true := by decide +kernel
theorem ev_g3 (sc : am_Sy) (h0 : sc.2 0 &&& 31 = Int32.ofNat 3) : ev_End sc 4 := ev_use ev_o3 (ev_ho (ev_rg_ok sc 1 (by decide) (by decide) (by decide)) (ev_ho (ev_bo_ok sc 2) (ev_ho_nil))) h0
set_option maxRecDepth 100000 in
theorem ev_o4 : ev_all [ev_bo 1] (fun ds => ev_fin (ev_runT ev_tb 3000 (ev_xs 4 ds) fm_m99 ev_S0)) = true := by decide +kernel
theorem ev_g4 (sc : am_Sy) (h0 : sc.2 0 &&& 31 = Int32.ofNat 4) : ev_End sc 4 := ev_use ev_o4 (ev_ho (ev_bo_ok sc 1) (ev_ho_nil)) h0
set_option maxRecDepth 100000 in
theorem ev_o5 : ev_all [ev_rg 1 0 101] (fun ds => ev_fin (ev_runT ev_tb 3000 (ev_xs 5 ds) fm_m99 ev_S0)) = true := by decide +kernel
theorem ev_g5 (sc : am_Sy) (h0 : sc.2 0 &&& 31 = Int32.ofNat 5) : ev_End sc 4 := ev_use ev_o5 (ev_ho (ev_rg_ok sc 1 (by decide) (by decide) (by decide)) (ev_ho_nil)) h0
set_option maxRecDepth 100000 in
theorem ev_o7 : ev_all [] (fun ds => ev_fin (ev_runT ev_tb 3000 (ev_xs 7 ds) fm_m99 ev_S0)) = true := by decide +kernel
theorem ev_g7 (sc : am_Sy) (h0 : sc.2 0 &&& 31 = Int32.ofNat 7) : ev_End sc 4 := ev_use ev_o7 (ev_ho_nil) h0
set_option maxRecDepth 100000 in
theorem ev_o8 : ev_all [ev_rg 1 0 6, ev_rg 2 0 4] (fun ds => ev_fin (ev_runT ev_tb 3000 (ev_xs 8 ds) fm_m99 ev_S0)) = true := by decide +kernel
theorem ev_g8 (sc : am_Sy) (h0 : sc.2 0 &&& 31 = Int32.ofNat 8) : ev_End sc 4 := ev_use ev_o8 (ev_ho (ev_rg_ok sc 1 (by decide) (by decide) (by decide)) (ev_ho (ev_rg_ok sc 2 (by decide) (by decide) (by decide)) (ev_ho_nil))) h0
set_option maxRecDepth 100000 in
theorem ev_o10 : ev_all [] (fun ds => ev_fin (ev_runT ev_tb 3000 (ev_xs 10 ds) fm_m99 ev_S0)) = true := by decide +kernel
theorem ev_g10 (sc : am_Sy) (h0 : sc.2 0 &&& 31 = Int32.ofNat 10) : ev_End sc 4 := ev_use ev_o10 (ev_ho_nil) h0
set_option maxRecDepth 100000 in
theorem ev_o11 : ev_all [] (fun ds => ev_fin (ev_runT ev_tb 3000 (ev_xs 11 ds) fm_m99 ev_S0)) = true := by decide +kernel
theorem ev_g11 (sc : am_Sy) (h0 : sc.2 0 &&& 31 = Int32.ofNat 11) : ev_End sc 4 := ev_use ev_o11 (ev_ho_nil) h0
set_option maxRecDepth 100000 in
theorem ev_o12 : ev_all [ev_rg 1 0 0, ev_rg 2 0 8] (fun ds => ev_fin (ev_runT ev_tb 3000 (ev_xs 12 ds) fm_m99 ev_S0)) = true := by decide +kernel
theorem ev_g12 (sc : am_Sy) (h0 : sc.2 0 &&& 31 = Int32.ofNat 12) : ev_End sc 4 := ev_use ev_o12 (ev_ho (ev_rg_ok sc 1 (by decide) (by decide) (by decide)) (ev_ho (ev_rg_ok sc 2 (by decide) (by decide) (by decide)) (ev_ho_nil))) h0
set_option maxRecDepth 100000 in
theorem ev_o13 : ev_all [ev_rg 1 0 4, ev_rg 2 0 0, ev_rg 3 0 3] (fun ds => ev_fin (ev_runT ev_tb 3000 (ev_xs 13 ds) fm_m99 ev_S0)) = true := by decide +kernel
theorem ev_g13 (sc : am_Sy) (h0 : sc.2 0 &&& 31 = Int32.ofNat 13) : ev_End sc 4 := ev_use ev_o13 (ev_ho (ev_rg_ok sc 1 (by decide) (by decide) (by decide)) (ev_ho (ev_rg_ok sc 2 (by decide) (by decide) (by decide)) (ev_ho (ev_rg_ok sc 3 (by decide) (by decide) (by decide)) (ev_ho_nil)))) h0
set_option maxRecDepth 100000 in
theorem ev_o14 : ev_all [ev_rg 1 0 0, ev_rg 2 0 8] (fun ds => ev_fin (ev_runT ev_tb 3000 (ev_xs 14 ds) fm_m99 ev_S0)) = true := by decide +kernel
theorem ev_g14 (sc : am_Sy) (h0 : sc.2 0 &&& 31 = Int32.ofNat 14) : ev_End sc 4 := ev_use ev_o14 (ev_ho (ev_rg_ok sc 1 (by decide) (by decide) (by decide)) (ev_ho (ev_rg_ok sc 2 (by decide) (by decide) (by decide)) (ev_ho_nil))) h0
set_option maxRecDepth 100000 in
theorem ev_o15 : ev_all [ev_rg 1 0 0] (fun ds => ev_fin (ev_runT ev_tb 3000 (ev_xs 15 ds) fm_m99 ev_S0)) = true := by decide +kernel
theorem ev_g15 (sc : am_Sy) (h0 : sc.2 0 &&& 31 = Int32.ofNat 15) : ev_End sc 4 := ev_use ev_o15 (ev_ho (ev_rg_ok sc 1 (by decide) (by decide) (by decide)) (ev_ho_nil)) h0
set_option maxRecDepth 100000 in
theorem ev_o16 : ev_all [ev_rg 1 0 0, ev_rg 2 0 0] (fun ds => ev_fin (ev_runT ev_tb 3000 (ev_xs 16 ds) fm_m99 ev_S0)) = true := by decide +kernel
theorem ev_g16 (sc : am_Sy) (h0 : sc.2 0 &&& 31 = Int32.ofNat 16) : ev_End sc 4 := ev_use ev_o16 (ev_ho (ev_rg_ok sc 1 (by decide) (by decide) (by decide)) (ev_ho (ev_rg_ok sc 2 (by decide) (by decide) (by decide)) (ev_ho_nil))) h0
set_option maxRecDepth 100000 in
theorem ev_o17 : ev_all [ev_rg 1 0 0, ev_rg 2 0 0] (fun ds => ev_fin (ev_runT ev_tb 3000 (ev_xs 17 ds) fm_m99 ev_S0)) = true := by decide +kernel
theorem ev_g17 (sc : am_Sy) (h0 : sc.2 0 &&& 31 = Int32.ofNat 17) : ev_End sc 4 := ev_use ev_o17 (ev_ho (ev_rg_ok sc 1 (by decide) (by decide) (by decide)) (ev_ho (ev_rg_ok sc 2 (by decide) (by decide) (by decide)) (ev_ho_nil))) h0
