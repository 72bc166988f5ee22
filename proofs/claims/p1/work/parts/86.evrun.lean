/-! ===== the model's run, behind the cells of the class; both together ===== -/
theorem ev_mbs : ev_bl ev_mc 0 60 := ⟨ev_mb0, ev_mb1, ev_mb2, ev_mb3, ev_mb4, ev_mb5, ev_mb6, ev_mb7, ev_mb8, ev_mb9, ev_mb10, ev_mb11, ev_mb12, ev_mb13, ev_mb14, ev_mb15, ev_mb16, ev_mb17, ev_mb18, ev_mb19, ev_mb20, ev_mb21, ev_mb22, ev_mb23, ev_mb24, ev_mb25, ev_mb26, ev_mb27, ev_mb28, ev_mb29, ev_mb30, ev_mb31, ev_mb32, ev_mb33, ev_mb34, ev_mb35, ev_mb36, ev_mb37, ev_mb38, ev_mb39, ev_mb40, ev_mb41, ev_mb42, ev_mb43, ev_mb44, ev_mb45, ev_mb46, ev_mb47, ev_mb48, ev_mb49, ev_mb50, ev_mb51, ev_mb52, ev_mb53, ev_mb54, ev_mb55, ev_mb56, ev_mb57, ev_mb58, ev_mb59, trivial⟩
theorem ev_mt_ok (hp : am_H) : ∀ e ∈ (List.range 60).map ev_me, ev_tbe hp e := fun e he => by
  obtain ⟨i, hi, rfl⟩ := List.mem_map.mp he
  exact (ev_ent 6000 (j := 81) (mf := fm_m81) (as := [2]) (H := ev_hm i) rfl (ev_hm_ok i) (by have h := ev_bl_at ev_mbs i (List.mem_range.mp hi); rw [Nat.zero_add] at h; exact h)).1
set_option maxRecDepth 100000 in
theorem ev_mr : ((List.range 60).all fun n => fm_chk (ev_runT ((List.range 60).map ev_me) 3000 am_o0 fm_m75 (0, fm_p [2, Nat.add (Nat.mul 8 (Nat.add n 1)) 1], [], ev_hm 0, 0, 0)) (.inl (some 1), ev_hm (Nat.add n 1), 0, 0)) = true := by decide +kernel
theorem ev_qe_ok (hp : am_H) {n : Nat} (hn : n < 60) : ev_tbe hp (75, [2, Nat.add (Nat.mul 8 (Nat.add n 1)) 1], ev_hm 0, (.inl (some 1), ev_hm (Nat.add n 1), 0, 0)) := (ev_entT 3000 (j := 75) (mf := fm_m75) (ev_mt_ok hp) rfl (ev_hm_ok 0) (List.all_eq_true.mp ev_mr n (List.mem_range.mpr hn))).1
set_option maxRecDepth 100000 in
theorem ev_jt : fm_jt 307 2288 1803 ev_TE ev_TM 35 = true := by decide +kernel
set_option maxRecDepth 100000 in
theorem ev_hi : ((List.range 61).all fun n => fm_hiq (ev_cM.getD n 0) 2288 ev_x0) = true := by decide +kernel
theorem ev_j1 {n : Nat} (hn : n < 61) : fm_ah [] (ev_hc n) = fm_ah (fm_hp 307 (ev_hc n)) (ev_hm 0) := fm_jn_t ev_jt (fun p _ => fm_hiq_d (List.all_eq_true.mp ev_hi n (List.mem_range.mpr hn)) p) ev_rl0
theorem ev_rls : fm_RLs 307 1803 ev_xM ev_mM := ⟨ev_rl0, ev_rl1, ev_rl2, ev_rl3, ev_rl4, ev_rl5, ev_rl6, ev_rl7, ev_rl8, ev_rl9, ev_rl10, ev_rl11, ev_rl12, ev_rl13, ev_rl14, ev_rl15, ev_rl16, ev_rl17, ev_rl18, ev_rl19, ev_rl20, ev_rl21, ev_rl22, ev_rl23, ev_rl24, ev_rl25, ev_rl26, ev_rl27, ev_rl28, ev_rl29, ev_rl30, ev_rl31, ev_rl32, ev_rl33, ev_rl34, ev_rl35, ev_rl36, ev_rl37, ev_rl38, ev_rl39, ev_rl40, ev_rl41, ev_rl42, ev_rl43, ev_rl44, ev_rl45, ev_rl46, ev_rl47, ev_rl48, ev_rl49, ev_rl50, ev_rl51, ev_rl52, ev_rl53, ev_rl54, ev_rl55, ev_rl56, ev_rl57, ev_rl58, ev_rl59, ev_rl60, trivial⟩
theorem ev_j2 {n : Nat} (hn : n < 61) : fm_ah [] (ev_hg n) = fm_ah (fm_hp 307 (ev_hg n)) (ev_hm n) := fm_jn_t ev_jt (fun p _ => fm_g_b_hi _ _ _ p) (fm_RLs_at ev_rls hn)
set_option maxRecDepth 100000 in
theorem ev_low : fm_low 307 2288 ev_TE = true := by decide +kernel
theorem ev_hg_M (n : Nat) : ∀ p, p < 2288 → fm_g (ev_cM.getD n 0) p = fm_g (fm_b (ev_cM.getD n 0) 2288 (ev_xM.getD n 0)) p := fun p hp => (fm_g_b_lo (ev_cM.getD n 0) 2288 (ev_xM.getD n 0) hp).symm
theorem ev_hp (n : Nat) : fm_hp 307 (ev_hc n) = fm_hp 307 (ev_hg n) := fm_hp_eq (m := 2288) ev_low (ev_hg_M n)
def ev_w (n : Nat) : Nat := Nat.add (Nat.mul 8 (Nat.add n 1)) 1
def ev_ge2 (n : Nat) : Nat × List Nat × fm_H × fm_R := (75, [8 * 307 + 2, ev_w n], ev_hc (Nat.add n 1), (.inl (some 1), ev_hg (Nat.add n 1), 0, 0))
theorem ev_hg_ok (n : Nat) : fm_ok (ev_hg n) := fm_ok_M (M := ev_cM.getD n 0) (ev_hc_ok n)
theorem ev_L75 : ∀ mi, am_ms 75 = some mi → 2 ≤ am_L mi := fun mi h => by
  have : am_ms 75 = some am_m75 := rfl
  cases h.symm.trans this
  decide
theorem ev_ge2_ok {n : Nat} (hn : n < 60) : ev_tbe [] (ev_ge2 n) := by
  have hn1 : Nat.add n 1 < 61 := Nat.succ_lt_succ hn
  have j2 := ev_j2 hn1
  rw [← ev_hp] at j2
  have hw : ev_w n = 8 * (n + 1) + 1 := rfl
  exact ev_moveE (c := 307) (hp := fm_hp 307 (ev_hc (Nat.add n 1))) (w := ev_w n) (B := ev_hm 0) (B' := ev_hm (Nat.add n 1)) (fm_hp_len _ _) ev_L75 (by rw [hw]; omega) (by rw [hw]; omega) (by omega) (ev_j1 hn1) j2 (ev_hg_ok _) (ev_qe_ok _ hn)
def ev_tb6 (n : Nat) : fm_Tb := [ev_e0, ev_e1, ev_re n, ev_ge2 n]
theorem ev_tb6_ok {n : Nat} (hn : n < 60) : ∀ e ∈ ev_tb6 n, ev_tbe [] e := fun e he => by
  rcases List.mem_cons.mp he with rfl | he
  · exact ev_c0_ok.1
  · rcases List.mem_cons.mp he with rfl | he
    · exact ev_c1_ok.1
    · rcases List.mem_cons.mp he with rfl | he
      · exact ev_re_ok hn
      · rw [List.mem_singleton.mp he]
        exact ev_ge2_ok hn
set_option maxRecDepth 100000 in
theorem ev_o6a : ev_fin (ev_runT ev_tb 3000 (ev_xs 6 [ev_lt 1 1]) fm_m99 ev_S0) = true := by decide +kernel
set_option maxRecDepth 100000 in
theorem ev_o6b : ev_fin (ev_runT ev_tb 3000 (ev_xs 6 [ev_ge 1 1 61]) fm_m99 ev_S0) = true := by decide +kernel
set_option maxRecDepth 100000 in
theorem ev_o6 : ((List.range 60).all fun n => ev_fin (ev_runT (ev_tb6 n) 3000 (ev_xs 6 [ev_in 1 1 n]) fm_m99 ev_S0)) = true := by decide +kernel
theorem ev_one {sc : am_Sy} {d : ev_D} (h : ev_P sc d) : ∀ d' ∈ [d], ev_P sc d' := fun d' hd => by rw [List.mem_singleton.mp hd]; exact h
theorem ev_g6 (sc : am_Sy) (h0 : sc.2 0 &&& 31 = Int32.ofNat 6) : ev_End sc 4 := by
  rcases ev_rg_or sc 1 (lo := 1) (hi := 61) (by decide) (by decide) (by decide) with h | h | ⟨v, hv, h⟩
  · exact ⟨_, rfl, ev_xs_Or (ev_one h) h0, ev_good ev_tb_ok ev_o6a⟩
  · exact ⟨_, rfl, ev_xs_Or (ev_one h) h0, ev_good ev_tb_ok ev_o6b⟩
  · have hv : v < 60 := hv
    exact ⟨_, rfl, ev_xs_Or (ev_one h) h0, ev_good (ev_tb6_ok hv) (List.all_eq_true.mp ev_o6 v (List.mem_range.mpr hv))⟩
