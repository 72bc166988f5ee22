/-! ===== the reference: settle comes to its end ===== -/
/-- K, but for answers to all among what waits before number m -/
def km_K0 (u : Nat → Nat) (mc m : Nat) (h : am_H) : Prop := (∀ i, i < 80 → kc_al mc (ab_sl h (u 49) i) (ab_sl h (u 52) i) (ab_sl h (u 53) i)) ∧ (∀ i, i < 64 → kc_al mc (ab_sl h (u 54) i) (ab_sl h (u 57) i) (ab_sl h (u 58) i) ∧ (md_v h (u 54) i ≤ 2147483649 → md_v h (u 56) i ≠ 2147483663)) ∧ (∀ m m', m < m' → m' < mc → ¬ (md_v h (u 59) m = md_v h (u 59) m' ∧ md_v h (u 60) m = md_v h (u 60) m')) ∧ (∀ i, m ≤ i → i < km_n u h → ¬ (md_v h (u 54) i = 2147483651 ∧ md_v h (u 56) i = 2147483663))
/-- handle's contracts, each with what it may write -/
def md_hV (mc : Nat) (τ u : Nat → Nat) (tv wr : Nat) : Prop := ∃ w0 w1 w2 w3 w4 w5, md_Vd mc τ u tv 96 (md_hnd mc 1 (w_e 0) (w_mm mc) ab_top ab_top (w_r 0 7) w0) ∧ md_Vd mc τ u tv 96 (md_hnd mc 0 (w_e 1) (w_mm mc) ab_top ab_top (w_r 0 7) w1) ∧ md_Vd mc τ u tv 96 (md_hnd mc 3 (w_e 2) (w_mm mc) (w_r 0 7) ab_top (w_r 0 7) w2) ∧ md_Vd mc τ u tv 96 (md_hnd mc 3 (w_e 2) (w_e 15) (w_r 0 7) ab_top (w_r 0 7) w3) ∧ md_Vd mc τ u tv 96 (md_hnd mc 2 (w_e 3) (w_mm mc) (w_r 0 7) (w_mm mc) (w_r 0 7) w4) ∧ md_Vd mc τ u tv 96 (md_hnd mc 16 (w_e 3) (w_e 15) (w_r 0 7) (w_mm mc) (w_e 0) w5) ∧ Nat.beq (Nat.land w0 wr) w0 = true ∧ Nat.beq (Nat.land w1 wr) w1 = true ∧ Nat.beq (Nat.land w2 wr) w2 = true ∧ Nat.beq (Nat.land w3 wr) w3 = true ∧ Nat.beq (Nat.land w4 wr) w4 = true ∧ Nat.beq (Nat.land w5 wr) w5 = true
theorem md_v_eq2 {h h' : am_H} {a i n : Nat} (e : ab_sl h' a i = if i < n then ab_sl h a (i + 1) else ab_sl h a i) (hi : i < n) : md_v h' a i = md_v h a (i + 1) := by
  unfold md_v
  rw [e, if_pos hi]
theorem md_v_eq3 {h h' : am_H} {a i n : Nat} (e : ab_sl h' a i = if i < n then ab_sl h a (i + 1) else ab_sl h a i) (hi : ¬ i < n) : md_v h' a i = md_v h a i := by
  unfold md_v
  rw [e, if_neg hi]
set_option maxRecDepth 100000 in
theorem md_step {mc : Nat} {τ u : Nat → Nat} {tv wr : Nat} (hU : ab_U w_uq τ u) (hut : ∀ k, w_uq k = true → τ (u k) = k) (hmc : Nat.beq mc 0 = false) (hmc8 : mc ≤ 8) (hV : md_hV mc τ u tv wr) (hwr : ∀ k, k ∈ [54, 55, 56, 57, 58] → ab_tb wr (ab_bt w_kd k 0) = true) (hwr19 : ab_tb wr (ab_bt w_kd 40 19) = true) {h0 h : am_H} (hP : cl_H mc τ tv wr h0 h 0) (hK : km_K0 u mc 1 h) {zw : Int32} {n : Nat} (hzw : ab_sl h (u 40) 19 = some (.int zw)) (hw : ab_b zw = 2147483648 + (n + 1)) (n8 : n < 8) (hall : md_v h (u 54) 0 = 2147483651 → md_v h (u 56) 0 = 2147483663 → n = 0) {o1 o2 o3 o4 o5 o6 : Option Value} {Q : am_R → Prop} (hQ : ∀ h2, cl_H mc τ tv wr h0 h2 0 → km_K u mc h2 → km_F u h2 < km_F u h → km_Q u h2 ≤ km_Q u h → (∃ z : Int32, ab_sl h2 (u 40) 19 = some (.int z) ∧ 2147483648 ≤ ab_b z ∧ ab_b z ≤ 2147483656) → ∀ p1 p2 p3 p4 p5 p6 : Option Value, cl_Rn am_m122 (0, [some (.ref (u 40)), p1, p2, p3, p4, p5, p6], [], h2, 0, 0) Q) : cl_Rn am_m122 (0, [some (.ref (u 40)), o1, o2, o3, o4, o5, o6], [], h, 0, 0) Q := by
  have hu : τ (u 40) = 40 := hut 40 (by decide +kernel)
  have hu0 : τ (u 40) ≠ 0 := by rw [hu]; decide
  have hk40 : (w_kd (τ (u 40))).1 = 9 := by rw [hu]; rfl
  have hud := md_ud hut
  have c1 : ab_b (Int32.ofNat (9 / 8)) = 2147483649 := by decide
  have c0 : ab_b (Int32.ofNat (1 / 8)) = 2147483648 := by decide
  have z0 : 2147483648 ≤ ab_b (Int32.ofNat (1 / 8)) := by rw [c0]; exact Nat.le_refl _
  have z0' : ab_b (Int32.ofNat (1 / 8)) - 2147483648 = 0 := by rw [c0]
  have gt : ∀ z : Int32, ab_gc τ tv ab_top (.int z) := fun z => ⟨z, rfl, Nat.zero_le _, Nat.le_of_lt_succ (ab_b_lt z)⟩
  have hG19 : w_G mc 40 19 = [w_r 0 64] := by
    show (bif Nat.beq mc 0 then [w_e 0] else [w_r 0 64]) = _
    rw [hmc]
    rfl
  obtain ⟨k1, k2, k3, k4⟩ := hK
  obtain ⟨y54, hy54, v54, hv54, gy54⟩ := md_int hut hP.1 (k := 54) (i := 0) (by decide +kernel) (by decide) (by decide +kernel) (by decide) rfl
  obtain ⟨y55, hy55, v55, hv55, gy55⟩ := md_int hut hP.1 (k := 55) (i := 0) (by decide +kernel) (by decide) (by decide +kernel) (by decide) rfl
  obtain ⟨y56, hy56, v56, hv56, gy56⟩ := md_int hut hP.1 (k := 56) (i := 0) (by decide +kernel) (by decide) (by decide +kernel) (by decide) rfl
  obtain ⟨y57, hy57, v57, hv57, gy57⟩ := md_int hut hP.1 (k := 57) (i := 0) (by decide +kernel) (by decide) (by decide +kernel) (by decide) rfl
  obtain ⟨y58, hy58, v58, hv58, gy58⟩ := md_int hut hP.1 (k := 58) (i := 0) (by decide +kernel) (by decide) (by decide +kernel) (by decide) rfl
  refine rs_st (cmp := am_cmp) wk_q122 (show wk_at wk_m122 0 3 0 1 0 0 = true by decide +kernel) rfl ?_
  refine md_get hut wk_q122 (show wk_at wk_m122 1 25 9 19 0 0 = true by decide +kernel) hP.1 (v := .int zw) hzw ?_
  refine rs_iff wk_q122 (show wk_at wk_m122 4 22 5 166 0 0 = true by decide +kernel) (by show decide (zw ≤ 0) = false; exact decide_eq_false (fun hle => by have := ab_b_lei.mp hle; rw [ab_b_0] at this; omega)) ?_
  refine rs_st (cmp := am_cmp) wk_q122 (show wk_at wk_m122 7 3 0 1 0 0 = true by decide +kernel) rfl ?_
  refine md_get hut wk_q122 (show wk_at wk_m122 8 25 9 20 0 0 = true by decide +kernel) hP.1 (v := .ref (u 54)) (md_row hU hut hP.1 (i := 20) (k := 54) (by decide) rfl (by decide +kernel)) ?_
  refine rs_st (cmp := am_cmp) wk_q122 (show wk_at wk_m122 11 1 1 1 0 0 = true by decide +kernel) rfl ?_
  refine md_ial hut wk_q122 (show wk_at wk_m122 12 27 0 0 0 0 = true by decide +kernel) hP.1 (k := 54) (by decide +kernel) (by decide) rfl z0 z0' (v := y54) hy54 ?_
  refine rs_st (cmp := am_cmp) wk_q122 (show wk_at wk_m122 13 4 1 1 0 0 = true by decide +kernel) rfl ?_
  refine rs_st (cmp := am_cmp) wk_q122 (show wk_at wk_m122 14 3 0 1 0 0 = true by decide +kernel) rfl ?_
  refine md_get hut wk_q122 (show wk_at wk_m122 15 25 9 21 0 0 = true by decide +kernel) hP.1 (v := .ref (u 55)) (md_row hU hut hP.1 (i := 21) (k := 55) (by decide) rfl (by decide +kernel)) ?_
  refine rs_st (cmp := am_cmp) wk_q122 (show wk_at wk_m122 18 1 1 1 0 0 = true by decide +kernel) rfl ?_
  refine md_ial hut wk_q122 (show wk_at wk_m122 19 27 0 0 0 0 = true by decide +kernel) hP.1 (k := 55) (by decide +kernel) (by decide) rfl z0 z0' (v := y55) hy55 ?_
  refine rs_st (cmp := am_cmp) wk_q122 (show wk_at wk_m122 20 4 2 1 0 0 = true by decide +kernel) rfl ?_
  refine rs_st (cmp := am_cmp) wk_q122 (show wk_at wk_m122 21 3 0 1 0 0 = true by decide +kernel) rfl ?_
  refine md_get hut wk_q122 (show wk_at wk_m122 22 25 9 22 0 0 = true by decide +kernel) hP.1 (v := .ref (u 56)) (md_row hU hut hP.1 (i := 22) (k := 56) (by decide) rfl (by decide +kernel)) ?_
  refine rs_st (cmp := am_cmp) wk_q122 (show wk_at wk_m122 25 1 1 1 0 0 = true by decide +kernel) rfl ?_
  refine md_ial hut wk_q122 (show wk_at wk_m122 26 27 0 0 0 0 = true by decide +kernel) hP.1 (k := 56) (by decide +kernel) (by decide) rfl z0 z0' (v := y56) hy56 ?_
  refine rs_st (cmp := am_cmp) wk_q122 (show wk_at wk_m122 27 4 3 1 0 0 = true by decide +kernel) rfl ?_
  refine rs_st (cmp := am_cmp) wk_q122 (show wk_at wk_m122 28 3 0 1 0 0 = true by decide +kernel) rfl ?_
  refine md_get hut wk_q122 (show wk_at wk_m122 29 25 9 23 0 0 = true by decide +kernel) hP.1 (v := .ref (u 57)) (md_row hU hut hP.1 (i := 23) (k := 57) (by decide) rfl (by decide +kernel)) ?_
  refine rs_st (cmp := am_cmp) wk_q122 (show wk_at wk_m122 32 1 1 1 0 0 = true by decide +kernel) rfl ?_
  refine md_ial hut wk_q122 (show wk_at wk_m122 33 27 0 0 0 0 = true by decide +kernel) hP.1 (k := 57) (by decide +kernel) (by decide) rfl z0 z0' (v := y57) hy57 ?_
  refine rs_st (cmp := am_cmp) wk_q122 (show wk_at wk_m122 34 4 4 2 0 0 = true by decide +kernel) rfl ?_
  refine rs_st (cmp := am_cmp) wk_q122 (show wk_at wk_m122 36 3 0 1 0 0 = true by decide +kernel) rfl ?_
  refine md_get hut wk_q122 (show wk_at wk_m122 37 25 9 24 0 0 = true by decide +kernel) hP.1 (v := .ref (u 58)) (md_row hU hut hP.1 (i := 24) (k := 58) (by decide) rfl (by decide +kernel)) ?_
  refine rs_st (cmp := am_cmp) wk_q122 (show wk_at wk_m122 40 1 1 1 0 0 = true by decide +kernel) rfl ?_
  refine md_ial hut wk_q122 (show wk_at wk_m122 41 27 0 0 0 0 = true by decide +kernel) hP.1 (k := 58) (by decide +kernel) (by decide) rfl z0 z0' (v := y58) hy58 ?_
  refine rs_st (cmp := am_cmp) wk_q122 (show wk_at wk_m122 42 4 5 2 0 0 = true by decide +kernel) rfl ?_
  refine rs_st (cmp := am_cmp) wk_q122 (show wk_at wk_m122 44 3 0 1 0 0 = true by decide +kernel) rfl ?_
  refine rs_st (cmp := am_cmp) wk_q122 (show wk_at wk_m122 45 18 0 0 0 0 = true by decide +kernel) rfl ?_
  refine md_get hut wk_q122 (show wk_at wk_m122 46 25 9 19 0 0 = true by decide +kernel) hP.1 (v := .int zw) hzw ?_
  refine rs_st (cmp := am_cmp) wk_q122 (show wk_at wk_m122 49 1 9 1 0 0 = true by decide +kernel) rfl ?_
  refine rs_st (cmp := am_cmp) wk_q122 (show wk_at wk_m122 50 8 0 0 0 0 = true by decide +kernel) rfl ?_
  have hsub := ab_b_sub (x := zw) (y := Int32.ofNat (9 / 8)) (by omega) (by omega)
  have hn1 : ab_b (zw - Int32.ofNat (9 / 8)) = 2147483648 + n := by omega
  refine md_put hut wk_q122 (show wk_at wk_m122 51 26 9 19 0 0 = true by decide +kernel) hP (by decide) hwr19 (by rw [hG19]; exact ⟨_, List.mem_singleton_self _, _, rfl, by show 2147483648 ≤ _; omega, by show _ ≤ 2147483712; omega⟩) (fun h1 hP1 e1 => ?_)
  refine rs_st (cmp := am_cmp) wk_q122 (show wk_at wk_m122 54 1 1 1 0 0 = true by decide +kernel) rfl ?_
  refine rs_st (cmp := am_cmp) wk_q122 (show wk_at wk_m122 55 4 6 2 0 0 = true by decide +kernel) rfl ?_
  have s19 : ab_sl h1 (u 40) 19 = some (.int (zw - Int32.ofNat (9 / 8))) := by rw [e1, if_pos ⟨rfl, rfl⟩]
  have x1 : ∀ k i, w_uq k = true → k ≠ 40 → ab_sl h1 (u k) i = ab_sl h (u k) i := fun k i hk hk4 => by rw [e1, if_neg (fun z => hud k 40 hk (by decide +kernel) hk4 z.1)]
  refine md_shift hU hut hwr s19 hn1 (by omega) (fun zi hi hPi hs => ?_) n 0 (Int32.ofNat (1 / 8)) h1 (by omega) c0 hP1 ⟨fun k hk j => by rw [if_neg (Nat.not_lt_zero j)], fun _ _ _ _ => rfl⟩
  have r5 : ∀ k, k ∈ [54, 55, 56, 57, 58] → ∀ j, ab_sl hi (u k) j = if j < n then ab_sl h (u k) (j + 1) else ab_sl h (u k) j := fun k hk j => by
    have hku : w_uq k = true ∧ k ≠ 40 := by
      simp only [List.mem_cons, List.not_mem_nil, or_false] at hk
      rcases hk with rfl | rfl | rfl | rfl | rfl <;> decide +kernel
    rw [hs.1 k hk j, x1 k (j + 1) hku.1 hku.2, x1 k j hku.1 hku.2]
  have ro : ∀ k j, w_uq k = true → k ∉ [40, 54, 55, 56, 57, 58] → ab_sl hi (u k) j = ab_sl h (u k) j := fun k j hk hn => by
    rw [hs.2 k j hk (fun z => hn (List.mem_cons_of_mem _ z)), x1 k j hk (fun z => hn (by rw [z]; exact List.mem_cons_self))]
  have r19 : ab_sl hi (u 40) 19 = some (.int (zw - Int32.ofNat (9 / 8))) := by rw [hs.2 40 19 (by decide +kernel) (by decide)]; exact s19
  have r40 : ∀ i, i ≠ 19 → ab_sl hi (u 40) i = ab_sl h (u 40) i := fun i hne => by rw [hs.2 40 i (by decide +kernel) (by decide), e1, if_neg (fun z => hne z.2)]
  have hni : km_n u hi = n := by
    unfold km_n
    rw [md_v_int r19, hn1]
    exact Nat.add_sub_cancel_left ..
  have hnh : km_n u h = n + 1 := by
    unfold km_n
    rw [md_v_int hzw, hw]
    exact Nat.add_sub_cancel_left ..
  have hKi : km_K u mc hi := by
    refine ⟨fun i hlt => ?_, fun i hlt => ?_, fun m m' h1 h2 => ?_, fun i hlt => ?_⟩
    · rw [ro 49 i (by decide +kernel) (by decide), ro 52 i (by decide +kernel) (by decide), ro 53 i (by decide +kernel) (by decide)]
      exact k1 i hlt
    · by_cases e : i < n
      · rw [r5 54 (by decide), r5 57 (by decide), r5 58 (by decide), if_pos e, if_pos e, if_pos e, md_v_eq2 (r5 54 (by decide) i) e, md_v_eq2 (r5 56 (by decide) i) e]
        exact k2 (i + 1) (by omega)
      · rw [r5 54 (by decide), r5 57 (by decide), r5 58 (by decide), if_neg e, if_neg e, if_neg e, md_v_eq3 (r5 54 (by decide) i) e, md_v_eq3 (r5 56 (by decide) i) e]
        exact k2 i hlt
    · rw [md_v_eq (ro 59 m (by decide +kernel) (by decide)), md_v_eq (ro 59 m' (by decide +kernel) (by decide)), md_v_eq (ro 60 m (by decide +kernel) (by decide)), md_v_eq (ro 60 m' (by decide +kernel) (by decide))]
      exact k3 m m' h1 h2
    · rw [hni] at hlt
      rw [md_v_eq2 (r5 54 (by decide) i) hlt, md_v_eq2 (r5 56 (by decide) i) hlt]
      exact k4 (i + 1) (by omega) (by omega)
  have hFi : km_F u hi + km_w (ab_b y54) (ab_b y56) = km_F u h := by
    unfold km_F
    rw [hni, hnh, km_sum_shift (fun i => km_w (md_v h (u 54) i) (md_v h (u 56) i)) n, md_v_int hy54, md_v_int hy56, km_sum_eq (f := fun i => km_w (md_v hi (u 54) i) (md_v hi (u 56) i)) (g := fun i => km_w (md_v h (u 54) (i + 1)) (md_v h (u 56) (i + 1))) (fun i hlt => by rw [md_v_eq2 (r5 54 (by decide) i) hlt, md_v_eq2 (r5 56 (by decide) i) hlt]), km_sum_eq (f := fun m => md_v hi (u 64) m - 2147483648) (g := fun m => md_v h (u 64) m - 2147483648) (fun m _ => by rw [md_v_eq (ro 64 m (by decide +kernel) (by decide))])]
    omega
  have hQi : km_Q u hi = km_Q u h := by
    unfold km_Q
    rw [md_v_eq (r40 7 (by decide))]
  have s55 : 2147483648 ≤ ab_b y55 ∧ ab_b y55 ≤ Nat.add 2147483648 (Nat.sub mc 1) := by
    have := List.mem_singleton.mp hv55
    subst this
    obtain ⟨z, hz, z1, z2⟩ := gy55
    cases hz
    exact ⟨z1, z2⟩
  have fin : ∀ {g wh : Nat} {vk vr va vb vw : ab_V}, md_Vd mc τ u tv 96 (md_hnd mc g vk vr va vb vw wh) → Nat.beq (Nat.land wh wr) wh = true → ab_gc τ tv vk (.int y54) → ab_gc τ tv vr (.int y56) → ab_gc τ tv va (.int y57) → ab_gc τ tv vb (.int y58) → vw.1 = 0 → vw.2.1 ≤ 2147483648 + n → 2147483648 + n ≤ vw.2.2 → g < km_w (ab_b y54) (ab_b y56) → cl_Rn am_m122 (152, [some (.ref (u 40)), some (.int y54), some (.int y55), some (.int y56), some (.int y57), some (.int y58), some (.int zi)], [], hi, 0, 0) Q := fun {g wh vk vr va vb vw} hVh hl gk gr ga gb hvw q1 q2 hg => by
    refine rs_st (cmp := am_cmp) wk_q122 (show wk_at wk_m122 152 3 0 1 0 0 = true by decide +kernel) rfl ?_
    refine rs_st (cmp := am_cmp) wk_q122 (show wk_at wk_m122 153 2 1 1 0 0 = true by decide +kernel) rfl ?_
    refine rs_st (cmp := am_cmp) wk_q122 (show wk_at wk_m122 154 2 2 1 0 0 = true by decide +kernel) rfl ?_
    refine rs_st (cmp := am_cmp) wk_q122 (show wk_at wk_m122 155 2 3 1 0 0 = true by decide +kernel) rfl ?_
    refine rs_st (cmp := am_cmp) wk_q122 (show wk_at wk_m122 156 2 4 2 0 0 = true by decide +kernel) rfl ?_
    refine rs_st (cmp := am_cmp) wk_q122 (show wk_at wk_m122 158 2 5 2 0 0 = true by decide +kernel) rfl ?_
    refine rs_iv (as := [.int y54, .int y55, .int y56, .int y57, .int y58]) (r := []) wk_q122 (show wk_at wk_m122 160 40 96 5 2 9 = true by decide +kernel) hPi.1 hu0 hk40 rfl rfl (Nat.le_of_ble_eq_true rfl) (mj := am_m96) rfl ⟨by decide, by decide, Nat.le_of_ble_eq_true rfl⟩ ?_
    refine rs_cv (as := [.ref (u 40), .int y54, .int y55, .int y56, .int y57, .int y58]) (ρ := kc_rho u 0) hVh rfl kc_rho_ad hPi.1 hKi ⟨Or.inr ⟨rfl, hu, by decide⟩, Or.inr (ab_g_c gk), Or.inr (ab_g_0.mpr ⟨y55, rfl, s55.1, s55.2⟩), Or.inr (ab_g_c gr), Or.inr (ab_g_c ga), Or.inr (ab_g_c gb), trivial⟩ (fun f hf => ?_) (by intro e he; have := List.mem_singleton.mp he; subst this; exact (by decide : (0 : Nat) ≠ 2)) rfl (fun v h' k' q' hPo => ⟨v, h', k', q', rfl, ?_⟩)
    · have := List.mem_singleton.mp hf
      subst this
      obtain ⟨tg, lo, hi'⟩ := vw
      have hvw : tg = 0 := hvw
      subst hvw
      exact md_fk hu r19 (by rw [hn1]; exact q1) (by rw [hn1]; exact q2)
    obtain ⟨e, he, hend0, hH, hfb⟩ := hPo
    have := List.mem_singleton.mp he
    subst this
    rcases hend0 with ⟨-, hv⟩ | ⟨h1, -⟩ | ⟨h1, -⟩
    rotate_left
    · exact absurd (show (0 : Nat) = 1 from h1) (by decide)
    · exact absurd (show (0 : Nat) = 2 from h1) (by decide)
    have hv : v = none := Sum.inl.inj hv
    subst hv
    have hPf := rs_tr (wr := wr) hl hPi hH
    obtain ⟨-, hKf, -, -, hp0, hp1, hk', hq'⟩ := hH
    obtain rfl : k' = 0 := Nat.le_zero.mp hk'
    obtain rfl : q' = 0 := Nat.le_zero.mp hq'
    have hp0 : km_F u h' + 1000 ≤ km_F u hi + (1000 + g) := hp0
    have hp1 : km_Q u h' + 1000 ≤ km_Q u hi + 1000 := hp1
    obtain ⟨z, hy, y1, y2⟩ := md_fbd (h := h') (lo := Nat.add 2147483648 0) (hi := Nat.add 2147483648 8) (hfb _ (List.mem_singleton_self _))
    rw [md_a] at y1 y2
    refine rs_st (cmp := am_cmp) wk_q122 (show wk_at wk_m122 163 21 0 0 0 0 = true by decide +kernel) rfl ?_
    exact hQ h' hPf hKf (by omega) (by omega) ⟨z, hy, y1, y2⟩ _ _ _ _ _ _
  obtain ⟨w0, w1, w2, w3, w4, w5, V0, V1, V2, V3, V4, V5, l0, l1, l2, l3, l4, l5⟩ := hV
  have gr : ab_gc τ tv (w_mm mc) (.int y56) ∨ ab_gc τ tv (w_e 15) (.int y56) := by
    rcases List.mem_cons.mp hv56 with rfl | hm
    · exact Or.inl gy56
    · have := List.mem_singleton.mp hm
      subst this
      exact Or.inr gy56
  have mmlt : ab_gc τ tv (w_mm mc) (.int y56) → ab_b y56 ≠ 2147483663 := fun ⟨z, hz, _, z2⟩ => by
    cases hz
    have z2 : ab_b y56 ≤ Nat.add 2147483648 (Nat.sub mc 1) := z2
    rw [md_a, md_s] at z2
    omega
  have e15 : ab_gc τ tv (w_e 15) (.int y56) → ab_b y56 = 2147483663 := fun ⟨z, hz, z1, z2⟩ => by
    cases hz
    have z1 : 2147483663 ≤ ab_b y56 := z1
    have z2 : ab_b y56 ≤ 2147483663 := z2
    omega
  have ex : ∀ (x : Int32) (c : Nat), ab_b x = Nat.add 2147483648 c → ab_gc τ tv (w_e c) (.int x) := fun x c hc => ⟨x, rfl, by rw [hc]; exact Nat.le_refl _, by rw [hc]; exact Nat.le_refl _⟩
  obtain ⟨⟨zk, hzk, hcase⟩, hr15⟩ := k2 0 (by decide)
  rw [hy54] at hzk
  cases hzk
  rw [md_v_int hy54, md_v_int hy56] at hr15 hall
  have n7 : 2147483648 + n ≤ 2147483655 := by omega
  rcases hcase with rfl | rfl | ⟨rfl, y, hy, y1, y2⟩ | ⟨rfl, ⟨y, hy, y1, y2⟩, sd, hsd, d1, d2⟩
  · have hk : ab_b (0 : Int32) = 2147483648 := by decide
    rcases gr with g | g
    · exact fin V0 l0 (ex _ 0 (by decide)) g (gt _) (gt _) rfl (Nat.le_add_right _ _) n7 (by rw [hk]; unfold km_w; rw [if_pos rfl]; decide)
    · exact absurd (e15 g) (hr15 (by rw [hk]; decide))
  · have hk : ab_b (1 : Int32) = 2147483649 := by decide
    rcases gr with g | g
    · exact fin V1 l1 (ex _ 1 (by decide)) g (gt _) (gt _) rfl (Nat.le_add_right _ _) n7 (by rw [hk]; unfold km_w; rw [if_neg (by decide), if_pos rfl]; decide)
    · exact absurd (e15 g) (hr15 (by rw [hk]; exact Nat.le_refl _))
  · have hk : ab_b (2 : Int32) = 2147483650 := by decide
    rw [hy57] at hy
    cases hy
    have ga : ab_gc τ tv (w_r 0 7) (.int y57) := ⟨y57, rfl, y1, y2⟩
    have hgw : 3 < km_w (ab_b (2 : Int32)) (ab_b y56) := by rw [hk]; unfold km_w; rw [if_neg (by decide), if_neg (by decide), if_pos rfl]; decide
    rcases gr with g | g
    · exact fin V2 l2 (ex _ 2 (by decide)) g ga (gt _) rfl (Nat.le_add_right _ _) n7 hgw
    · exact fin V3 l3 (ex _ 2 (by decide)) g ga (gt _) rfl (Nat.le_add_right _ _) n7 hgw
  · have hk : ab_b (3 : Int32) = 2147483651 := by decide
    rw [hy57] at hy
    cases hy
    rw [hy58] at hsd
    cases hsd
    have ga : ab_gc τ tv (w_r 0 7) (.int y57) := ⟨y57, rfl, y1, y2⟩
    have gb : ab_gc τ tv (w_mm mc) (.int y58) := ⟨y58, rfl, d1, by show _ ≤ Nat.add 2147483648 (Nat.sub mc 1); rw [md_a, md_s]; exact d2⟩
    rcases gr with g | g
    · exact fin V4 l4 (ex _ 3 (by decide)) g ga gb rfl (Nat.le_add_right _ _) n7 (by rw [hk]; unfold km_w; rw [if_neg (by decide), if_neg (by decide), if_neg (by decide), if_neg (mmlt g)]; decide)
    · have hn0 : n = 0 := hall hk (e15 g)
      subst hn0
      exact fin V5 l5 (ex _ 3 (by decide)) g ga gb rfl (Nat.le_refl _) (Nat.le_refl _) (by rw [hk, e15 g]; decide)
theorem km_K0_of {u : Nat → Nat} {mc : Nat} {h : am_H} (hK : km_K u mc h) : km_K0 u mc 1 h := ⟨hK.1, hK.2.1, hK.2.2.1, fun i _ hi => hK.2.2.2 i hi⟩
/-- the loop: the weight of what waits and of the rows falls -/
theorem md_sett_loop {mc : Nat} {τ u : Nat → Nat} {tv wr : Nat} (hU : ab_U w_uq τ u) (hut : ∀ k, w_uq k = true → τ (u k) = k) (hmc : Nat.beq mc 0 = false) (hmc8 : mc ≤ 8) (hV : md_hV mc τ u tv wr) (hwr : ∀ k, k ∈ [54, 55, 56, 57, 58] → ab_tb wr (ab_bt w_kd k 0) = true) (hwr19 : ab_tb wr (ab_bt w_kd 40 19) = true) {h0 : am_H} {Q : am_R → Prop} (hQ : ∀ h2 z, cl_H mc τ tv wr h0 h2 0 → km_K u mc h2 → km_F u h2 ≤ km_F u h0 → km_Q u h2 ≤ km_Q u h0 → ab_sl h2 (u 40) 19 = some (.int z) → ab_b z = 2147483648 → Q (.inl none, h2, 0, 0)) : ∀ (N : Nat) (h : am_H), km_F u h ≤ N → cl_H mc τ tv wr h0 h 0 → km_K u mc h → km_F u h ≤ km_F u h0 → km_Q u h ≤ km_Q u h0 → (∃ z : Int32, ab_sl h (u 40) 19 = some (.int z) ∧ 2147483648 ≤ ab_b z ∧ ab_b z ≤ 2147483656) → ∀ o1 o2 o3 o4 o5 o6 : Option Value, cl_Rn am_m122 (0, [some (.ref (u 40)), o1, o2, o3, o4, o5, o6], [], h, 0, 0) Q := by
  have done : ∀ (h : am_H) (z : Int32), ab_sl h (u 40) 19 = some (.int z) → ab_b z = 2147483648 → cl_H mc τ tv wr h0 h 0 → km_K u mc h → km_F u h ≤ km_F u h0 → km_Q u h ≤ km_Q u h0 → ∀ o1 o2 o3 o4 o5 o6 : Option Value, cl_Rn am_m122 (0, [some (.ref (u 40)), o1, o2, o3, o4, o5, o6], [], h, 0, 0) Q := fun h z hz e0 hP hK hF hq o1 o2 o3 o4 o5 o6 => by
    refine rs_st (cmp := am_cmp) wk_q122 (show wk_at wk_m122 0 3 0 1 0 0 = true by decide +kernel) rfl ?_
    refine md_get hut wk_q122 (show wk_at wk_m122 1 25 9 19 0 0 = true by decide +kernel) hP.1 (v := .int z) hz ?_
    refine rs_ift wk_q122 (show wk_at wk_m122 4 22 5 166 0 0 = true by decide +kernel) (by show decide (z ≤ 0) = true; exact decide_eq_true (ab_b_lei.mpr (by rw [ab_b_0, e0]; exact Nat.le_refl _))) ?_
    exact rs_en (cmp := am_cmp) wk_q122 (show wk_at wk_m122 166 46 0 0 0 0 = true by decide +kernel) rfl (hQ h z hP hK hF hq hz e0)
  intro N
  induction N with
  | zero =>
    intro h hN hP hK hF hq hw o1 o2 o3 o4 o5 o6
    obtain ⟨z, hz, z1, z2⟩ := hw
    by_cases e0 : ab_b z = 2147483648
    · exact done h z hz e0 hP hK hF hq o1 o2 o3 o4 o5 o6
    · obtain ⟨n, hn⟩ : ∃ n, ab_b z = 2147483648 + (n + 1) := ⟨ab_b z - 2147483649, by omega⟩
      refine md_step hU hut hmc hmc8 hV hwr hwr19 hP (km_K0_of hK) hz hn (by omega) (fun a1 a2 => absurd ⟨a1, a2⟩ (hK.2.2.2 0 (by unfold km_n; rw [md_v_int hz]; omega))) (fun h2 hP2 hK2 hF2 => absurd hF2 (by omega))
  | succ N ih =>
    intro h hN hP hK hF hq hw o1 o2 o3 o4 o5 o6
    obtain ⟨z, hz, z1, z2⟩ := hw
    by_cases e0 : ab_b z = 2147483648
    · exact done h z hz e0 hP hK hF hq o1 o2 o3 o4 o5 o6
    · obtain ⟨n, hn⟩ : ∃ n, ab_b z = 2147483648 + (n + 1) := ⟨ab_b z - 2147483649, by omega⟩
      refine md_step hU hut hmc hmc8 hV hwr hwr19 hP (km_K0_of hK) hz hn (by omega) (fun a1 a2 => absurd ⟨a1, a2⟩ (hK.2.2.2 0 (by unfold km_n; rw [md_v_int hz]; omega))) (fun h2 hP2 hK2 hF2 hq2 hw2 p1 p2 p3 p4 p5 p6 => ih h2 (by omega) hP2 hK2 (by omega) (by omega) hw2 p1 p2 p3 p4 p5 p6)
theorem md_sett_ok {mc : Nat} {τ u : Nat → Nat} {tv wr : Nat} (hU : ab_U w_uq τ u) (hut : ∀ k, w_uq k = true → τ (u k) = k) (hmc : Nat.beq mc 0 = false) (hmc8 : mc ≤ 8) (hV : md_hV mc τ u tv wr) (hwr : ∀ k, k ∈ [54, 55, 56, 57, 58] → ab_tb wr (ab_bt w_kd k 0) = true) (hwr19 : ab_tb wr (ab_bt w_kd 40 19) = true) : md_Vd mc τ u tv 122 (md_sett wr) := by
  intro mj hmj ρ h as had hI hK hA hF
  have hmj : am_m122 = mj := Option.some.inj hmj
  subst hmj
  match as, hA with
  | [v0], hA =>
    obtain ⟨h0, -⟩ := hA
    rcases h0 with h0 | ⟨rfl, x1, x2⟩
    · cases h0
    have hx : ρ 640 = u 40 := had 40 (by decide +kernel)
    have hu : τ (u 40) = 40 := hut 40 (by decide +kernel)
    obtain ⟨zw, hzw, w1, w2⟩ := kc_fact hF
    rw [hx] at hzw
    show cl_Rn am_m122 (0, [some (.ref (ρ 640)), none, none, none, none, none, none], [], h, 0, 0) _
    rw [hx]
    refine md_sett_loop hU hut hmc hmc8 hV hwr hwr19 (fun h2 z hP2 hK2 hF2 hq2 hz e0 => ?_) (km_F u h) h (Nat.le_refl _) (cl_0 hI) hK (Nat.le_refl _) (Nat.le_refl _) ⟨zw, hzw, w1, w2⟩ none none none none none none
    refine ⟨_, List.mem_singleton_self _, Or.inl ⟨rfl, rfl⟩, ⟨hP2.1, hK2, hP2.2.1, hP2.2.2, ?_, ?_, Nat.le_refl _, Nat.le_refl _⟩, fun f hf => ?_⟩
    · show km_F u h2 + 1000 ≤ km_F u h + 1000
      omega
    · show km_Q u h2 + 1000 ≤ km_Q u h + 1000
      omega
    · have := List.mem_singleton.mp hf
      subst this
      exact md_fb hu hz (by rw [e0]; exact Nat.le_refl _) (by rw [e0]; exact Nat.le_refl _)
  | [], hA => exact hA.elim
  | _ :: _ :: _, hA => exact hA.2.elim
