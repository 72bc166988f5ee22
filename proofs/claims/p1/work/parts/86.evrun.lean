/-! ===== the model's run, behind the cells of the class; both together ===== -/
theorem ev_mt_ok (hp : am_H) : ∀ e ∈ (List.range 60).map ev_me, ev_tbe hp e := fun e he => by
  obtain ⟨i, hi, rfl⟩ := List.mem_map.mp he
  exact (ev_ent 6000 (j := 81) (mf := fm_m81) (as := [2]) (H := ev_hm i) rfl (ev_hm_ok i) (ev_blk ev_mb0 ev_mb1 ev_mb2 ev_mb3 ev_mb4 ev_mb5 i (List.mem_range.mp hi))).1
set_option maxRecDepth 100000 in
theorem ev_mr : ((List.range 60).all fun n => fm_chk (ev_runT ((List.range 60).map ev_me) 3000 am_o0 fm_m75 (0, fm_p [2, Nat.add (Nat.mul 8 (Nat.add n 1)) 1], [], ev_hm 0, 0, 0)) (.inl (some 1), ev_hm (Nat.add n 1), 0, 0)) = true := by decide +kernel
theorem ev_qe_ok (hp : am_H) {n : Nat} (hn : n < 60) : ev_tbe hp (75, [2, Nat.add (Nat.mul 8 (Nat.add n 1)) 1], ev_hm 0, (.inl (some 1), ev_hm (Nat.add n 1), 0, 0)) := (ev_entT 3000 (j := 75) (mf := fm_m75) (ev_mt_ok hp) rfl (ev_hm_ok 0) (List.all_eq_true.mp ev_mr n (List.mem_range.mpr hn))).1
set_option maxRecDepth 100000 in
theorem ev_j1 : ((List.range 60).all fun n => fm_jn 307 (ev_hc (Nat.add n 1)) (ev_hm 0)) = true := by decide +kernel
set_option maxRecDepth 100000 in
theorem ev_j2 : ((List.range 60).all fun n => fm_jn 307 (ev_hg (Nat.add n 1)) (ev_hm (Nat.add n 1))) = true := by decide +kernel
set_option maxRecDepth 100000 in
theorem ev_low : fm_low 307 2288 ev_TE = true := by decide +kernel
theorem ev_hp (n : Nat) : fm_hp 307 (ev_hc n) = fm_hp 307 (ev_hg n) := by
  refine fm_hp_eq (m := 2288) rfl ev_low ?_
  show ev_cM.getD n 0 % 2 ^ (36 * 2288) = (ev_cM.getD n 0 % 2 ^ (36 * 2288) + (ev_xM.getD n 0) <<< (36 * 2288)) % 2 ^ (36 * 2288)
  rw [Nat.shiftLeft_eq, Nat.add_mul_mod_self_right, Nat.mod_mod]
def ev_ge2 (n : Nat) : Nat × List Nat × fm_H × fm_R := (75, [2458, Nat.add (Nat.mul 8 (Nat.add n 1)) 1], ev_hc (Nat.add n 1), (.inl (some 1), ev_hg (Nat.add n 1), 0, 0))
theorem ev_hg_ok (n : Nat) : fm_ok (ev_hg n) := ev_hc_ok n
theorem ev_ge2_ok {n : Nat} (hn : n < 60) : ev_tbe [] (ev_ge2 n) := by
  intro mi hmi
  have hmi : am_ms 75 = some mi := hmi
  obtain ⟨f, h1, -⟩ := ev_qe_ok (fm_hp 307 (ev_hc (Nat.add n 1))) hn mi hmi
  refine ⟨f, ?_, ev_hg_ok _⟩
  have j1 := fm_jn_d (List.all_eq_true.mp ev_j1 n (List.mem_range.mpr hn))
  have j2 := fm_jn_d (List.all_eq_true.mp ev_j2 n (List.mem_range.mpr hn))
  rw [← ev_hp] at j2
  have hL : am_L mi = 4 := by
    have : am_ms 75 = some am_m75 := rfl
    cases hmi.symm.trans this
    rfl
  have e1 : fm_as [] (am_L mi) (0, fm_p [2458, Nat.add (Nat.mul 8 (Nat.add n 1)) 1], [], ev_hc (Nat.add n 1), 0, 0) = fm_as (fm_hp 307 (ev_hc (Nat.add n 1))) (am_L mi) (0, fm_p [2, Nat.add (Nat.mul 8 (Nat.add n 1)) 1], [], ev_hm 0, 0, 0) := by
    show (0, fm_lo 0 (am_L mi) (fm_p [2458, Nat.add (Nat.mul 8 (Nat.add n 1)) 1]), [], fm_ah [] (ev_hc (Nat.add n 1)), 0, 0) = (0, fm_lo (fm_hp 307 (ev_hc (Nat.add n 1))).length (am_L mi) (fm_p [2, Nat.add (Nat.mul 8 (Nat.add n 1)) 1]), [], fm_ah (fm_hp 307 (ev_hc (Nat.add n 1))) (ev_hm 0), 0, 0)
    have hn8 : Nat.add (Nat.mul 8 (Nat.add n 1)) 1 = 8 * (n + 1) + 1 := rfl
    rw [j1, fm_hp_len, hL, hn8, fm_lo_p (c := 0) (by simp) (fun v hv => by simp only [List.mem_cons, List.not_mem_nil, or_false] at hv; omega), fm_lo_p (c := 307) (by simp) (fun v hv => by simp only [List.mem_cons, List.not_mem_nil, or_false] at hv; omega)]
    simp only [List.map_cons, List.map_nil, fm_d_int, show 2458 = 8 * 307 + 2 from rfl, fm_d_ref, show fm_d 307 2 = .ref 307 from rfl, Nat.zero_add]
    rfl
  have e2 : fm_ar [] (.inl (some 1), ev_hg (Nat.add n 1), 0, 0) = fm_ar (fm_hp 307 (ev_hc (Nat.add n 1))) (.inl (some 1), ev_hm (Nat.add n 1), 0, 0) := by
    show (.inl (some (fm_d 0 1)), fm_ah [] (ev_hg (Nat.add n 1)), 0, 0) = (.inl (some (fm_d (fm_hp 307 (ev_hc (Nat.add n 1))).length 1)), fm_ah (fm_hp 307 (ev_hc (Nat.add n 1))) (ev_hm (Nat.add n 1)), 0, 0)
    rw [j2]
    rfl
  show am_run am_fty am_dfl am_cmp am_lk am_ms am_cx am_o0 f mi (fm_as [] (am_L mi) (0, fm_p [2458, Nat.add (Nat.mul 8 (Nat.add n 1)) 1], [], ev_hc (Nat.add n 1), 0, 0)) = some (fm_ar [] (.inl (some 1), ev_hg (Nat.add n 1), 0, 0))
  rw [e1, e2]
  exact h1
def ev_tb6 (n : Nat) : fm_Tb := [ev_e0, ev_e1, ev_re n, ev_ge2 n]
theorem ev_tb6_ok {n : Nat} (hn : n < 60) : ∀ e ∈ ev_tb6 n, ev_tbe [] e := fun e he => by
  rcases List.mem_cons.mp he with rfl | he
  · exact ev_c0_ok.1
  · rcases List.mem_cons.mp he with rfl | he
    · exact ev_c1_ok.1
    · rcases List.mem_cons.mp he with rfl | he
      · exact ev_re_ok hn
      · rw [List.mem_singleton.mp he]
        exact ev_ge2_ok hn
set_option maxRecDepth 100000 in
theorem ev_o6a : ev_fin (ev_runT ev_tb 3000 (ev_xs 6 [ev_lt 1 1]) fm_m99 ev_S0) = true := by decide +kernel
set_option maxRecDepth 100000 in
theorem ev_o6b : ev_fin (ev_runT ev_tb 3000 (ev_xs 6 [ev_ge 1 1 61]) fm_m99 ev_S0) = true := by decide +kernel
set_option maxRecDepth 100000 in
theorem ev_o6 : ((List.range 60).all fun n => ev_fin (ev_runT (ev_tb6 n) 3000 (ev_xs 6 [ev_in 1 1 n]) fm_m99 ev_S0)) = true := by decide +kernel
theorem ev_one {sc : am_Sy} {d : ev_D} (h : ev_P sc d) : ∀ d' ∈ [d], ev_P sc d' := fun d' hd => by rw [List.mem_singleton.mp hd]; exact h
theorem ev_g6 (sc : am_Sy) (h0 : sc.2 0 &&& 31 = Int32.ofNat 6) : ev_End sc 4 := by
  rcases ev_rg_or sc 1 (lo := 1) (hi := 61) (by decide) (by decide) (by decide) with h | h | ⟨v, hv, h⟩
  · exact ⟨_, rfl, ev_xs_Or (ev_one h) h0, ev_good ev_tb_ok ev_o6a⟩
  · exact ⟨_, rfl, ev_xs_Or (ev_one h) h0, ev_good ev_tb_ok ev_o6b⟩
  · have hv : v < 60 := hv
    exact ⟨_, rfl, ev_xs_Or (ev_one h) h0, ev_good (ev_tb6_ok hv) (List.all_eq_true.mp ev_o6 v (List.mem_range.mpr hv))⟩
