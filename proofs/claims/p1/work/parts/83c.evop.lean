/-! ===== one call on a fresh object: cases of its arguments ===== -/
set_option maxRecDepth 100000 in
theorem ev_o9_0 : ev_all [ev_rg 2 0 4, ev_rg 3 0 0] (fun ds => ev_fin (ev_runT ev_tb 3000 (ev_xs 9 (ev_lt 1 0 :: ds)) fm_m99 ev_S0)) = true := by decide +kernel
set_option maxRecDepth 100000 in
theorem ev_o9_1 : ev_all [ev_rg 2 0 4, ev_rg 3 0 0] (fun ds => ev_fin (ev_runT ev_tb 3000 (ev_xs 9 (ev_ge 1 0 6 :: ds)) fm_m99 ev_S0)) = true := by decide +kernel
set_option maxRecDepth 100000 in
theorem ev_o9_2 : ev_all [ev_rg 2 0 4, ev_rg 3 0 0] (fun ds => ev_fin (ev_runT ev_tb 3000 (ev_xs 9 (ev_in 1 0 0 :: ds)) fm_m99 ev_S0)) = true := by decide +kernel
set_option maxRecDepth 100000 in
theorem ev_o9_3 : ev_all [ev_rg 2 0 4, ev_rg 3 0 0] (fun ds => ev_fin (ev_runT ev_tb 3000 (ev_xs 9 (ev_in 1 0 1 :: ds)) fm_m99 ev_S0)) = true := by decide +kernel
set_option maxRecDepth 100000 in
theorem ev_o9_4 : ev_all [ev_rg 2 0 4, ev_rg 3 0 0] (fun ds => ev_fin (ev_runT ev_tb 3000 (ev_xs 9 (ev_in 1 0 2 :: ds)) fm_m99 ev_S0)) = true := by decide +kernel
set_option maxRecDepth 100000 in
theorem ev_o9_5 : ev_all [ev_rg 2 0 4, ev_rg 3 0 0] (fun ds => ev_fin (ev_runT ev_tb 3000 (ev_xs 9 (ev_in 1 0 3 :: ds)) fm_m99 ev_S0)) = true := by decide +kernel
set_option maxRecDepth 100000 in
theorem ev_o9_6 : ev_all [ev_rg 2 0 4, ev_rg 3 0 0] (fun ds => ev_fin (ev_runT ev_tb 3000 (ev_xs 9 (ev_in 1 0 4 :: ds)) fm_m99 ev_S0)) = true := by decide +kernel
set_option maxRecDepth 100000 in
theorem ev_o9_7 : ev_all [ev_rg 2 0 4, ev_rg 3 0 0] (fun ds => ev_fin (ev_runT ev_tb 3000 (ev_xs 9 (ev_in 1 0 5 :: ds)) fm_m99 ev_S0)) = true := by decide +kernel
theorem ev_o9 : ev_all [ev_rg 1 0 6, ev_rg 2 0 4, ev_rg 3 0 0] (fun ds => ev_fin (ev_runT ev_tb 3000 (ev_xs 9 ds) fm_m99 ev_S0)) = true := ev_rg_all (f := fun d => ev_all [ev_rg 2 0 4, ev_rg 3 0 0] (fun ds => ev_fin (ev_runT ev_tb 3000 (ev_xs 9 (d :: ds)) fm_m99 ev_S0))) ev_o9_0 ev_o9_1 (fun v hv => by
  have hv : v < 6 := hv
  match v, hv with
  | 0, _ => exact ev_o9_2
  | 1, _ => exact ev_o9_3
  | 2, _ => exact ev_o9_4
  | 3, _ => exact ev_o9_5
  | 4, _ => exact ev_o9_6
  | 5, _ => exact ev_o9_7
  | n + 6, h => exact absurd h (by omega))
theorem ev_g9 (sc : am_Sy) (h0 : sc.2 0 &&& 31 = Int32.ofNat 9) : ev_End sc 4 := ev_use ev_o9 (ev_ho (ev_rg_ok sc 1 (by decide) (by decide) (by decide)) (ev_ho (ev_rg_ok sc 2 (by decide) (by decide) (by decide)) (ev_ho (ev_rg_ok sc 3 (by decide) (by decide) (by decide)) (ev_ho_nil)))) h0
set_option maxRecDepth 100000 in
theorem ev_o18 : ev_all [] (fun ds => ev_fin (ev_runT ev_tb 3000 (ev_xs 18 ds) fm_m99 ev_S0)) = true := by decide +kernel
theorem ev_g18 (sc : am_Sy) (h0 : sc.2 0 &&& 31 = Int32.ofNat 18) : ev_End sc 4 := ev_use ev_o18 (ev_ho_nil) h0
set_option maxRecDepth 100000 in
theorem ev_o19 : ev_all [] (fun ds => ev_fin (ev_runT ev_tb 3000 (ev_xs 19 ds) fm_m99 ev_S0)) = true := by decide +kernel
theorem ev_g19 (sc : am_Sy) (h0 : sc.2 0 &&& 31 = Int32.ofNat 19) : ev_End sc 4 := ev_use ev_o19 (ev_ho_nil) h0
set_option maxRecDepth 100000 in
theorem ev_o20 : ev_all [] (fun ds => ev_fin (ev_runT ev_tb 3000 (ev_xs 20 ds) fm_m99 ev_S0)) = true := by decide +kernel
theorem ev_g20 (sc : am_Sy) (h0 : sc.2 0 &&& 31 = Int32.ofNat 20) : ev_End sc 4 := ev_use ev_o20 (ev_ho_nil) h0
set_option maxRecDepth 100000 in
theorem ev_o21 : ev_all [] (fun ds => ev_fin (ev_runT ev_tb 3000 (ev_xs 21 ds) fm_m99 ev_S0)) = true := by decide +kernel
theorem ev_g21 (sc : am_Sy) (h0 : sc.2 0 &&& 31 = Int32.ofNat 21) : ev_End sc 4 := ev_use ev_o21 (ev_ho_nil) h0
set_option maxRecDepth 100000 in
theorem ev_o22 : ev_all [] (fun ds => ev_fin (ev_runT ev_tb 3000 (ev_xs 22 ds) fm_m99 ev_S0)) = true := by decide +kernel
theorem ev_g22 (sc : am_Sy) (h0 : sc.2 0 &&& 31 = Int32.ofNat 22) : ev_End sc 4 := ev_use ev_o22 (ev_ho_nil) h0
set_option maxRecDepth 100000 in
theorem ev_o23 : ev_all [] (fun ds => ev_fin (ev_runT ev_tb 3000 (ev_xs 23 ds) fm_m99 ev_S0)) = true := by decide +kernel
theorem ev_g23 (sc : am_Sy) (h0 : sc.2 0 &&& 31 = Int32.ofNat 23) : ev_End sc 4 := ev_use ev_o23 (ev_ho_nil) h0
set_option maxRecDepth 100000 in
theorem ev_o24 : ev_all [] (fun ds => ev_fin (ev_runT ev_tb 3000 (ev_xs 24 ds) fm_m99 ev_S0)) = true := by decide +kernel
theorem ev_g24 (sc : am_Sy) (h0 : sc.2 0 &&& 31 = Int32.ofNat 24) : ev_End sc 4 := ev_use ev_o24 (ev_ho_nil) h0
set_option maxRecDepth 100000 in
theorem ev_o25 : ev_all [] (fun ds => ev_fin (ev_runT ev_tb 3000 (ev_xs 25 ds) fm_m99 ev_S0)) = true := by decide +kernel
theorem ev_g25 (sc : am_Sy) (h0 : sc.2 0 &&& 31 = Int32.ofNat 25) : ev_End sc 4 := ev_use ev_o25 (ev_ho_nil) h0
set_option maxRecDepth 100000 in
theorem ev_o26 : ev_all [] (fun ds => ev_fin (ev_runT ev_tb 3000 (ev_xs 26 ds) fm_m99 ev_S0)) = true := by decide +kernel
theorem ev_g26 (sc : am_Sy) (h0 : sc.2 0 &&& 31 = Int32.ofNat 26) : ev_End sc 4 := ev_use ev_o26 (ev_ho_nil) h0
set_option maxRecDepth 100000 in
theorem ev_o27 : ev_all [] (fun ds => ev_fin (ev_runT ev_tb 3000 (ev_xs 27 ds) fm_m99 ev_S0)) = true := by decide +kernel
theorem ev_g27 (sc : am_Sy) (h0 : sc.2 0 &&& 31 = Int32.ofNat 27) : ev_End sc 4 := ev_use ev_o27 (ev_ho_nil) h0
set_option maxRecDepth 100000 in
theorem ev_o28 : ev_all [] (fun ds => ev_fin (ev_runT ev_tb 3000 (ev_xs 28 ds) fm_m99 ev_S0)) = true := by decide +kernel
theorem ev_g28 (sc : am_Sy) (h0 : sc.2 0 &&& 31 = Int32.ofNat 28) : ev_End sc 4 := ev_use ev_o28 (ev_ho_nil) h0
set_option maxRecDepth 100000 in
theorem ev_o29 : ev_all [] (fun ds => ev_fin (ev_runT ev_tb 3000 (ev_xs 29 ds) fm_m99 ev_S0)) = true := by decide +kernel
theorem ev_g29 (sc : am_Sy) (h0 : sc.2 0 &&& 31 = Int32.ofNat 29) : ev_End sc 4 := ev_use ev_o29 (ev_ho_nil) h0
set_option maxRecDepth 100000 in
theorem ev_o30 : ev_all [] (fun ds => ev_fin (ev_runT ev_tb 3000 (ev_xs 30 ds) fm_m99 ev_S0)) = true := by decide +kernel
theorem ev_g30 (sc : am_Sy) (h0 : sc.2 0 &&& 31 = Int32.ofNat 30) : ev_End sc 4 := ev_use ev_o30 (ev_ho_nil) h0
set_option maxRecDepth 100000 in
theorem ev_o31 : ev_all [] (fun ds => ev_fin (ev_runT ev_tb 3000 (ev_xs 31 ds) fm_m99 ev_S0)) = true := by decide +kernel
theorem ev_g31 (sc : am_Sy) (h0 : sc.2 0 &&& 31 = Int32.ofNat 31) : ev_End sc 4 := ev_use ev_o31 (ev_ho_nil) h0
