/-! ===== one call on a fresh object: cases of its arguments ===== -/
theorem ev_rg_all {j : Nat} {lo hi : Int} {f : ev_D → Bool} (h1 : f (ev_lt j lo) = true) (h2 : f (ev_ge j lo hi) = true) (h3 : ∀ v, v < (hi - lo).toNat → f (ev_in j lo v) = true) : (ev_rg j lo hi).all f = true := by
  unfold ev_rg
  rw [List.all_cons, List.all_cons, h1, h2, Bool.true_and, Bool.true_and, List.all_map]
  exact List.all_eq_true.mpr (fun v hv => h3 v (List.mem_range.mp hv))
set_option maxRecDepth 100000 in
theorem ev_o0_0 : ev_all [ev_rg 2 0 3, ev_rg 3 0 8] (fun ds => ev_fin (ev_runT ev_tb 3000 (ev_xs 0 (ev_lt 1 0 :: ds)) fm_m99 ev_S0)) = true := by decide +kernel
set_option maxRecDepth 100000 in
theorem ev_o0_1 : ev_all [ev_rg 2 0 3, ev_rg 3 0 8] (fun ds => ev_fin (ev_runT ev_tb 3000 (ev_xs 0 (ev_ge 1 0 4 :: ds)) fm_m99 ev_S0)) = true := by decide +kernel
set_option maxRecDepth 100000 in
theorem ev_o0_2 : ev_all [ev_rg 2 0 3, ev_rg 3 0 8] (fun ds => ev_fin (ev_runT ev_tb 3000 (ev_xs 0 (ev_in 1 0 0 :: ds)) fm_m99 ev_S0)) = true := by decide +kernel
set_option maxRecDepth 100000 in
theorem ev_o0_3 : ev_all [ev_rg 2 0 3, ev_rg 3 0 8] (fun ds => ev_fin (ev_runT ev_tb 3000 (ev_xs 0 (ev_in 1 0 1 :: ds)) fm_m99 ev_S0)) = true := by decide +kernel
set_option maxRecDepth 100000 in
theorem ev_o0_4 : ev_all [ev_rg 2 0 3, ev_rg 3 0 8] (fun ds => ev_fin (ev_runT ev_tb 3000 (ev_xs 0 (ev_in 1 0 2 :: ds)) fm_m99 ev_S0)) = true := by decide +kernel
set_option maxRecDepth 100000 in
theorem ev_o0_5 : ev_all [ev_rg 2 0 3, ev_rg 3 0 8] (fun ds => ev_fin (ev_runT ev_tb 3000 (ev_xs 0 (ev_in 1 0 3 :: ds)) fm_m99 ev_S0)) = true := by decide +kernel
theorem ev_o0 : ev_all [ev_rg 1 0 4, ev_rg 2 0 3, ev_rg 3 0 8] (fun ds => ev_fin (ev_runT ev_tb 3000 (ev_xs 0 ds) fm_m99 ev_S0)) = true := ev_rg_all (f := fun d => ev_all [ev_rg 2 0 3, ev_rg 3 0 8] (fun ds => ev_fin (ev_runT ev_tb 3000 (ev_xs 0 (d :: ds)) fm_m99 ev_S0))) ev_o0_0 ev_o0_1 (fun v hv => by
  have hv : v < 4 := hv
  match v, hv with
  | 0, _ => exact ev_o0_2
  | 1, _ => exact ev_o0_3
  | 2, _ => exact ev_o0_4
  | 3, _ => exact ev_o0_5
  | n + 4, h => exact absurd h (by omega))
theorem ev_g0 (sc : am_Sy) (h0 : sc.2 0 &&& 31 = Int32.ofNat 0) : ev_End sc 4 := ev_use ev_o0 (ev_ho (ev_rg_ok sc 1 (by decide) (by decide) (by decide)) (ev_ho (ev_rg_ok sc 2 (by decide) (by decide) (by decide)) (ev_ho (ev_rg_ok sc 3 (by decide) (by decide) (by decide)) (ev_ho_nil)))) h0
