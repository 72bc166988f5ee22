/-! ===== directory by hand ===== -/
theorem dd_b {b : Int32} (hb : b = 0 ∨ b = 1) : Nat.add 2147483648 0 ≤ ab_b b ∧ ab_b b ≤ Nat.add 2147483648 1 := by
  rcases hb with rfl | rfl
  · rw [ab_b_0]; decide
  · rw [show ab_b 1 = 2147483649 by decide]; decide
set_option maxRecDepth 100000 in
theorem dc_dir {τ u : Nat → Nat} {mc Tc Tm : Nat} (hmc : mc < 9) (hU : ab_U w_uq τ u) (hut : ∀ k, w_uq k = true → τ (u k) = k) {h : am_H} (hJ : j_J τ u mc Tc Tm h) {zD b : Int32} (hz : ab_sl h (u 4) 2 = some (.int zD)) (hzD : zD = 0 ∨ zD = 1) (hb : b = 0 ∨ b = 1) : cl_Rn am_m2 (0, [some (.ref (u 1)), some (.int b), none], [], h, 0, 0) (fun r => ∃ h', r = (.inl (some (.int zD)), h', 0, 0) ∧ ∀ a i, ab_sl h' a i = if a = u 4 ∧ i = 2 then some (.int b) else ab_sl h a i) := by
  have hu : τ (u 1) = 1 := hut 1 (by decide +kernel)
  have hu0 : τ (u 1) ≠ 0 := by rw [hu]; decide
  have hk1 : (w_kd (τ (u 1))).1 = 0 := by rw [hu]; rfl
  have hv : τ (u 4) = 4 := hut 4 (by decide +kernel)
  have hv0 : τ (u 4) ≠ 0 := by rw [hv]; decide
  have hk4 : (w_kd (τ (u 4))).1 = 1 := by rw [hv]; rfl
  have r4 : ab_sl h (u 1) 2 = some (.ref (u 4)) := j_row1 (mc := mc) hU hJ.1 hu0 (by rw [hu]; decide) (by rw [hu]; rfl) (by decide +kernel)
  refine rs_st (cmp := am_cmp) wk_q2 (show wk_at wk_m2 0 3 0 1 0 0 = true by decide +kernel) rfl ?_
  refine rs_get (cmp := am_cmp) wk_q2 (show wk_at wk_m2 1 25 0 2 0 0 = true by decide +kernel) hJ.1 hu0 hk1 r4 ?_
  refine rs_get (cmp := am_cmp) wk_q2 (show wk_at wk_m2 4 25 1 2 0 0 = true by decide +kernel) hJ.1 hv0 hk4 hz ?_
  refine rs_st (cmp := am_cmp) wk_q2 (show wk_at wk_m2 7 4 2 1 0 0 = true by decide +kernel) rfl ?_
  refine rs_st (cmp := am_cmp) wk_q2 (show wk_at wk_m2 8 3 0 1 0 0 = true by decide +kernel) rfl ?_
  refine rs_get (cmp := am_cmp) wk_q2 (show wk_at wk_m2 9 25 0 2 0 0 = true by decide +kernel) hJ.1 hu0 hk1 r4 ?_
  refine rs_st (cmp := am_cmp) wk_q2 (show wk_at wk_m2 12 2 1 1 0 0 = true by decide +kernel) rfl ?_
  refine rs_put (cmp := am_cmp) (wr := j_mc) (h0 := h) wk_q2 (show wk_at wk_m2 13 26 1 2 1 0 = true by decide +kernel) ⟨hJ.1, fun a _ => ⟨fun _ => rfl, fun _ _ _ => rfl⟩, rfl⟩ hv0 hk4 (by rw [hv]; decide) (by rcases hb with rfl | rfl <;> rfl) (by rw [hv]; decide +kernel) (by rw [hv]; exact ⟨w_r 0 1, List.mem_singleton_self _, b, rfl, (dd_b hb).1, (dd_b hb).2⟩) (fun h1 hP1 e1 => ?_)
  refine rs_st (cmp := am_cmp) wk_q2 (show wk_at wk_m2 16 2 2 1 0 0 = true by decide +kernel) rfl ?_
  rcases hzD with rfl | rfl
  · exact rs_en (cmp := am_cmp) wk_q2 (show wk_at wk_m2 17 44 1 0 0 0 = true by decide +kernel) rfl ⟨h1, rfl, e1⟩
  · exact rs_en (cmp := am_cmp) wk_q2 (show wk_at wk_m2 17 44 1 0 0 0 = true by decide +kernel) rfl ⟨h1, rfl, e1⟩
set_option maxRecDepth 100000 in
theorem dm_dir {τ u : Nat → Nat} {mc Tc Tm : Nat} (hmc : mc < 9) (hU : ab_U w_uq τ u) (hut : ∀ k, w_uq k = true → τ (u k) = k) {h : am_H} (hJ : j_J τ u mc Tc Tm h) {zA b : Int32} (hz : ab_sl h (u 40) 41 = some (.int zA)) (hzA : zA = 0 ∨ zA = 1) (hb : b = 0 ∨ b = 1) : cl_Rn am_m87 (0, [some (.ref (u 40)), some (.int b), none], [], h, 0, 0) (fun r => ∃ h', r = (.inl (some (.int (if zA = 0 then 1 else 0))), h', 0, 0) ∧ ∀ a i, ab_sl h' a i = if a = u 40 ∧ i = 41 then some (.int (if b = 0 then 1 else 0)) else if a = u 40 ∧ i = 0 then some (.int 0) else ab_sl h a i) := by
  have hu : τ (u 40) = 40 := hut 40 (by decide +kernel)
  have hu0 : τ (u 40) ≠ 0 := by rw [hu]; decide
  have hk40 : (w_kd (τ (u 40))).1 = 9 := by rw [hu]; rfl
  refine rs_st (cmp := am_cmp) wk_q87 (show wk_at wk_m87 0 3 0 1 0 0 = true by decide +kernel) rfl ?_
  refine rs_st (cmp := am_cmp) wk_q87 (show wk_at wk_m87 1 1 1 1 0 0 = true by decide +kernel) rfl ?_
  refine md_put hut wk_q87 (show wk_at wk_m87 2 26 9 0 0 0 = true by decide +kernel) (cl_0 (wr := j_mr) hJ.1) (by decide) (by decide +kernel) ⟨w_r 0 2, List.mem_singleton_self _, _, rfl, by decide, by decide⟩ (fun h1 hP1 e1 => ?_)
  have hz1 : ab_sl h1 (u 40) 41 = some (.int zA) := by rw [e1, if_neg (fun e => absurd e.2 (by decide))]; exact hz
  refine rs_st (cmp := am_cmp) wk_q87 (show wk_at wk_m87 5 3 0 1 0 0 = true by decide +kernel) rfl ?_
  refine rs_get (cmp := am_cmp) wk_q87 (show wk_at wk_m87 6 25 9 41 0 0 = true by decide +kernel) hP1.1 hu0 hk40 hz1 ?_
  rcases hzA with rfl | rfl
  · rcases hb with rfl | rfl
    · refine rs_iff (cmp := am_cmp) wk_q87 (show wk_at wk_m87 9 22 1 16 0 0 = true by decide +kernel) rfl ?_
      refine rs_st (cmp := am_cmp) wk_q87 (show wk_at wk_m87 12 1 9 1 0 0 = true by decide +kernel) rfl ?_
      refine rs_st (cmp := am_cmp) wk_q87 (show wk_at wk_m87 13 21 17 0 0 0 = true by decide +kernel) rfl ?_
      refine rs_st (cmp := am_cmp) wk_q87 (show wk_at wk_m87 17 4 2 1 0 0 = true by decide +kernel) rfl ?_
      refine rs_st (cmp := am_cmp) wk_q87 (show wk_at wk_m87 18 3 0 1 0 0 = true by decide +kernel) rfl ?_
      refine rs_st (cmp := am_cmp) wk_q87 (show wk_at wk_m87 19 2 1 1 0 0 = true by decide +kernel) rfl ?_
      refine rs_iff (cmp := am_cmp) wk_q87 (show wk_at wk_m87 20 22 1 27 0 0 = true by decide +kernel) rfl ?_
      refine rs_st (cmp := am_cmp) wk_q87 (show wk_at wk_m87 23 1 9 1 0 0 = true by decide +kernel) rfl ?_
      refine rs_st (cmp := am_cmp) wk_q87 (show wk_at wk_m87 24 21 28 0 0 0 = true by decide +kernel) rfl ?_
      refine rs_put (cmp := am_cmp) (wr := j_mr) (h0 := h1) wk_q87 (show wk_at wk_m87 28 26 9 41 1 0 = true by decide +kernel) ⟨hP1.1, fun a _ => ⟨fun _ => rfl, fun _ _ _ => rfl⟩, rfl⟩ hu0 hk40 (by rw [hu]; decide) rfl (by rw [hu]; decide +kernel) (by rw [hu]; exact ⟨w_r 0 1, List.mem_singleton_self _, _, rfl, by decide, by decide⟩) (fun h2 hP2 e2 => ?_)
      refine rs_st (cmp := am_cmp) wk_q87 (show wk_at wk_m87 31 2 2 1 0 0 = true by decide +kernel) rfl ?_
      exact rs_en (cmp := am_cmp) wk_q87 (show wk_at wk_m87 32 44 1 0 0 0 = true by decide +kernel) rfl ⟨h2, rfl, fun a i => by rw [e2, e1]; rfl⟩
    · refine rs_iff (cmp := am_cmp) wk_q87 (show wk_at wk_m87 9 22 1 16 0 0 = true by decide +kernel) rfl ?_
      refine rs_st (cmp := am_cmp) wk_q87 (show wk_at wk_m87 12 1 9 1 0 0 = true by decide +kernel) rfl ?_
      refine rs_st (cmp := am_cmp) wk_q87 (show wk_at wk_m87 13 21 17 0 0 0 = true by decide +kernel) rfl ?_
      refine rs_st (cmp := am_cmp) wk_q87 (show wk_at wk_m87 17 4 2 1 0 0 = true by decide +kernel) rfl ?_
      refine rs_st (cmp := am_cmp) wk_q87 (show wk_at wk_m87 18 3 0 1 0 0 = true by decide +kernel) rfl ?_
      refine rs_st (cmp := am_cmp) wk_q87 (show wk_at wk_m87 19 2 1 1 0 0 = true by decide +kernel) rfl ?_
      refine rs_ift (cmp := am_cmp) wk_q87 (show wk_at wk_m87 20 22 1 27 0 0 = true by decide +kernel) rfl ?_
      refine rs_st (cmp := am_cmp) wk_q87 (show wk_at wk_m87 27 1 1 1 0 0 = true by decide +kernel) rfl ?_
      refine rs_put (cmp := am_cmp) (wr := j_mr) (h0 := h1) wk_q87 (show wk_at wk_m87 28 26 9 41 1 0 = true by decide +kernel) ⟨hP1.1, fun a _ => ⟨fun _ => rfl, fun _ _ _ => rfl⟩, rfl⟩ hu0 hk40 (by rw [hu]; decide) rfl (by rw [hu]; decide +kernel) (by rw [hu]; exact ⟨w_r 0 1, List.mem_singleton_self _, _, rfl, by decide, by decide⟩) (fun h2 hP2 e2 => ?_)
      refine rs_st (cmp := am_cmp) wk_q87 (show wk_at wk_m87 31 2 2 1 0 0 = true by decide +kernel) rfl ?_
      exact rs_en (cmp := am_cmp) wk_q87 (show wk_at wk_m87 32 44 1 0 0 0 = true by decide +kernel) rfl ⟨h2, rfl, fun a i => by rw [e2, e1]; rfl⟩
  · rcases hb with rfl | rfl
    · refine rs_ift (cmp := am_cmp) wk_q87 (show wk_at wk_m87 9 22 1 16 0 0 = true by decide +kernel) rfl ?_
      refine rs_st (cmp := am_cmp) wk_q87 (show wk_at wk_m87 16 1 1 1 0 0 = true by decide +kernel) rfl ?_
      refine rs_st (cmp := am_cmp) wk_q87 (show wk_at wk_m87 17 4 2 1 0 0 = true by decide +kernel) rfl ?_
      refine rs_st (cmp := am_cmp) wk_q87 (show wk_at wk_m87 18 3 0 1 0 0 = true by decide +kernel) rfl ?_
      refine rs_st (cmp := am_cmp) wk_q87 (show wk_at wk_m87 19 2 1 1 0 0 = true by decide +kernel) rfl ?_
      refine rs_iff (cmp := am_cmp) wk_q87 (show wk_at wk_m87 20 22 1 27 0 0 = true by decide +kernel) rfl ?_
      refine rs_st (cmp := am_cmp) wk_q87 (show wk_at wk_m87 23 1 9 1 0 0 = true by decide +kernel) rfl ?_
      refine rs_st (cmp := am_cmp) wk_q87 (show wk_at wk_m87 24 21 28 0 0 0 = true by decide +kernel) rfl ?_
      refine rs_put (cmp := am_cmp) (wr := j_mr) (h0 := h1) wk_q87 (show wk_at wk_m87 28 26 9 41 1 0 = true by decide +kernel) ⟨hP1.1, fun a _ => ⟨fun _ => rfl, fun _ _ _ => rfl⟩, rfl⟩ hu0 hk40 (by rw [hu]; decide) rfl (by rw [hu]; decide +kernel) (by rw [hu]; exact ⟨w_r 0 1, List.mem_singleton_self _, _, rfl, by decide, by decide⟩) (fun h2 hP2 e2 => ?_)
      refine rs_st (cmp := am_cmp) wk_q87 (show wk_at wk_m87 31 2 2 1 0 0 = true by decide +kernel) rfl ?_
      exact rs_en (cmp := am_cmp) wk_q87 (show wk_at wk_m87 32 44 1 0 0 0 = true by decide +kernel) rfl ⟨h2, rfl, fun a i => by rw [e2, e1]; rfl⟩
    · refine rs_ift (cmp := am_cmp) wk_q87 (show wk_at wk_m87 9 22 1 16 0 0 = true by decide +kernel) rfl ?_
      refine rs_st (cmp := am_cmp) wk_q87 (show wk_at wk_m87 16 1 1 1 0 0 = true by decide +kernel) rfl ?_
      refine rs_st (cmp := am_cmp) wk_q87 (show wk_at wk_m87 17 4 2 1 0 0 = true by decide +kernel) rfl ?_
      refine rs_st (cmp := am_cmp) wk_q87 (show wk_at wk_m87 18 3 0 1 0 0 = true by decide +kernel) rfl ?_
      refine rs_st (cmp := am_cmp) wk_q87 (show wk_at wk_m87 19 2 1 1 0 0 = true by decide +kernel) rfl ?_
      refine rs_ift (cmp := am_cmp) wk_q87 (show wk_at wk_m87 20 22 1 27 0 0 = true by decide +kernel) rfl ?_
      refine rs_st (cmp := am_cmp) wk_q87 (show wk_at wk_m87 27 1 1 1 0 0 = true by decide +kernel) rfl ?_
      refine rs_put (cmp := am_cmp) (wr := j_mr) (h0 := h1) wk_q87 (show wk_at wk_m87 28 26 9 41 1 0 = true by decide +kernel) ⟨hP1.1, fun a _ => ⟨fun _ => rfl, fun _ _ _ => rfl⟩, rfl⟩ hu0 hk40 (by rw [hu]; decide) rfl (by rw [hu]; decide +kernel) (by rw [hu]; exact ⟨w_r 0 1, List.mem_singleton_self _, _, rfl, by decide, by decide⟩) (fun h2 hP2 e2 => ?_)
      refine rs_st (cmp := am_cmp) wk_q87 (show wk_at wk_m87 31 2 2 1 0 0 = true by decide +kernel) rfl ?_
      exact rs_en (cmp := am_cmp) wk_q87 (show wk_at wk_m87 32 44 1 0 0 0 = true by decide +kernel) rfl ⟨h2, rfl, fun a i => by rw [e2, e1]; rfl⟩
/-- directory at the law's beginning -/
theorem s_iv {a i v : Nat} (h : (Nat.blt a 341 && (Nat.blt i (fm_ln ev_TD a) && Nat.beq (fm_g ev_MD (Nat.add (fm_of ev_TD a) i)) v)) = true) : ab_sl s_h a i = some (fm_d 0 v) := by
  obtain ⟨h1, h⟩ := ab_a2 h
  obtain ⟨h2, h3⟩ := ab_a2 h
  rw [s_sl (ab_blt h1) (ab_blt h2)]
  have e : fm_g ev_MD (fm_of ev_TD a + i) = v := ab_beq h3
  rw [e]
theorem ii_s : ii_I s_u s_h := ⟨1, 0, s_iv (v := 9) (by decide +kernel), s_iv (v := 1) (by decide +kernel), Or.inl ⟨rfl, rfl⟩⟩
