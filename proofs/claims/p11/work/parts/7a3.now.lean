/-! ===== the reference: run, move ===== -/
theorem j_kk {τ u : Nat → Nat} {mc Tc Tm M : Nat} {h h' : am_H} (hut : ∀ k, w_uq k = true → τ (u k) = k) (hJ : j_J τ u mc Tc Tm h) (hs : ∀ x i, (x = u 40 → i ≠ 0) → ab_sl h' x i = ab_sl h x i) : km_K u mc h' := by
  have hud := md_ud hut
  refine km_same (fun k hk i => hs _ _ (fun e => ?_)) (hs _ _ (fun _ => by decide)) hJ.2.2.1
  exfalso
  simp only [List.mem_cons, List.not_mem_nil, or_false] at hk
  rcases hk with rfl | rfl | rfl | rfl | rfl | rfl | rfl | rfl | rfl <;> exact hud _ 40 (by decide +kernel) (by decide +kernel) (by decide) e
theorem j_thr {τ u : Nat → Nat} {mc Tc Tm : Nat} (hmc : mc < 9) (hU : ab_U w_uq τ u) (hut : ∀ k, w_uq k = true → τ (u k) = k) {h : am_H} (hJ : j_J τ u mc Tc Tm h) {a b : Int32} {Q : am_R → Prop} (hQ : ∀ h', j_J τ u mc Tc Tm h' → h'.length = h.length → cl_H mc τ 2147483648 j_mr h h' 0 → (∀ x i, (x = u 40 → i ≠ 0) → ab_sl h' x i = ab_sl h x i) → ab_sl h' (u 40) 0 = some (.int (jm_tv a b)) → Q (.inl (some (.int (if a = 0 ∧ b = 0 then 0 else 1))), h', 0, 0)) : cl_Rn am_m125 (0, [some (.ref (u 40)), some (.int a), some (.int b)], [], h, 0, 0) Q := by
  refine jm_thr hut (Gm := w_G mc) (wr := j_mr) (tv := 2147483648) rfl (by decide +kernel) (cl_0 hJ.1) (fun h' hP hs hv => hQ h' ?_ hP.2.2 hP hs hv)
  have ht : ∀ {k i T}, (u k = u 40 → i ≠ 0) → j_t h (u k) i T → j_t h' (u k) i T := fun {k i T} hk ⟨z, hz, hT⟩ => ⟨z, by rw [hs _ _ hk]; exact hz, hT⟩
  exact j_ref hmc hut hJ hP.1 (j_kk (M := 0) hut hJ hs) (j_sub (by decide +kernel) hP.2.1) (ht (fun _ => by decide) hJ.2.2.2.1) (ht (fun _ => by decide) hJ.2.2.2.2.2.1)
set_option maxRecDepth 100000 in
theorem jm_run {τ u : Nat → Nat} {mc Tc Tm : Nat} (hmc : mc < 9) (hU : ab_U w_uq τ u) (hut : ∀ k, w_uq k = true → τ (u k) = k) (hT : 2147483648 ≤ Tm ∧ Tm + 60 ≤ 2147523647) {h : am_H} (hJ : j_J τ u mc Tc Tm h) (zn : Int32) : cl_Rn am_m119 (0, [some (.ref (u 40)), some (.int zn), none, none], [], h, 0, 0) (fun r => ∃ z h', r = (.inl (some (.int z)), h', 0, 0) ∧ j_J τ u mc Tc (Tm + j_n zn) h' ∧ h'.length = h.length) := by
  have hu : τ (u 40) = 40 := hut 40 (by decide +kernel)
  have hu0 : τ (u 40) ≠ 0 := by rw [hu]; decide
  have hk40 : (w_kd (τ (u 40))).1 = 9 := by rw [hu]; rfl
  have c0 : ab_b (Int32.ofNat (1 / 8)) = 2147483648 := by decide
  have c1 : ab_b (Int32.ofNat (9 / 8)) = 2147483649 := by decide
  have c60 : ab_b (Int32.ofNat (481 / 8)) = 2147483708 := by decide
  have thr : j_n zn = 0 → cl_Rn am_m119 (12, [some (.ref (u 40)), some (.int zn), none, none], [.ref (u 40)], h, 0, 0) (fun r => ∃ z h', r = (.inl (some (.int z)), h', 0, 0) ∧ j_J τ u mc Tc (Tm + j_n zn) h' ∧ h'.length = h.length) := fun hz => by
    refine rs_st (cmp := am_cmp) wk_q119 (show wk_at wk_m119 12 1 9 1 0 0 = true by decide +kernel) rfl ?_
    refine rs_st (cmp := am_cmp) wk_q119 (show wk_at wk_m119 13 21 17 0 0 0 = true by decide +kernel) rfl ?_
    refine rs_st (cmp := am_cmp) wk_q119 (show wk_at wk_m119 17 1 1 1 0 0 = true by decide +kernel) rfl ?_
    refine rs_iv (as := [.int (Int32.ofNat (9 / 8)), .int (Int32.ofNat (1 / 8))]) (r := []) wk_q119 (show wk_at wk_m119 18 40 125 2 2 9 = true by decide +kernel) hJ.1 hu0 hk40 rfl rfl (Nat.le_of_ble_eq_true rfl) (mj := am_m125) rfl ⟨by decide, by decide, Nat.le_of_ble_eq_true rfl⟩ ?_
    refine j_thr hmc hU hut hJ (fun h' hJ' hl _ _ _ => ⟨_, h', 0, 0, rfl, ?_⟩)
    rw [if_neg (by decide)]
    refine rs_iff wk_q119 (show wk_at wk_m119 21 22 0 26 0 0 = true by decide +kernel) (by decide +kernel) ?_
    refine rs_st (cmp := am_cmp) wk_q119 (show wk_at wk_m119 24 1 1 1 0 0 = true by decide +kernel) rfl ?_
    refine rs_en (cmp := am_cmp) wk_q119 (show wk_at wk_m119 25 44 0 0 0 0 = true by decide +kernel) rfl ⟨_, h', rfl, by rw [hz]; exact hJ', hl⟩
  refine rs_st (cmp := am_cmp) wk_q119 (show wk_at wk_m119 0 3 0 1 0 0 = true by decide +kernel) rfl ?_
  refine rs_st (cmp := am_cmp) wk_q119 (show wk_at wk_m119 1 2 1 1 0 0 = true by decide +kernel) rfl ?_
  refine rs_st (cmp := am_cmp) wk_q119 (show wk_at wk_m119 2 1 9 1 0 0 = true by decide +kernel) rfl ?_
  by_cases e1 : ab_b zn < 2147483649
  · refine rs_ict wk_q119 (show wk_at wk_m119 3 23 2 12 0 0 = true by decide +kernel) (by show decide (zn < Int32.ofNat (9 / 8)) = true; exact decide_eq_true (ab_b_lti.mpr (by omega))) ?_
    exact thr (by unfold j_n; rw [if_neg (by omega)])
  refine rs_icf wk_q119 (show wk_at wk_m119 3 23 2 12 0 0 = true by decide +kernel) (by show decide (zn < Int32.ofNat (9 / 8)) = false; exact decide_eq_false (fun hle => e1 (by have := ab_b_lti.mp hle; omega))) ?_
  refine rs_st (cmp := am_cmp) wk_q119 (show wk_at wk_m119 6 2 1 1 0 0 = true by decide +kernel) rfl ?_
  refine rs_st (cmp := am_cmp) wk_q119 (show wk_at wk_m119 7 1 481 2 0 0 = true by decide +kernel) rfl ?_
  by_cases e2 : 2147483708 < ab_b zn
  · refine rs_icf wk_q119 (show wk_at wk_m119 9 23 5 16 0 0 = true by decide +kernel) (by show decide (zn ≤ Int32.ofNat (481 / 8)) = false; exact decide_eq_false (fun hle => by have := ab_b_lei.mp hle; omega)) ?_
    exact thr (by unfold j_n; rw [if_neg (by omega)])
  refine rs_ict wk_q119 (show wk_at wk_m119 9 23 5 16 0 0 = true by decide +kernel) (by show decide (zn ≤ Int32.ofNat (481 / 8)) = true; exact decide_eq_true (ab_b_lei.mpr (by omega))) ?_
  obtain ⟨n, hn⟩ : ∃ n, ab_b zn = 2147483648 + n := ⟨ab_b zn - 2147483648, by omega⟩
  have hjn : j_n zn = n := by
    unfold j_n
    rw [if_pos (by omega), hn]
    exact Nat.add_sub_cancel_left ..
  refine rs_st (cmp := am_cmp) wk_q119 (show wk_at wk_m119 16 1 1 1 0 0 = true by decide +kernel) rfl ?_
  refine rs_st (cmp := am_cmp) wk_q119 (show wk_at wk_m119 17 1 1 1 0 0 = true by decide +kernel) rfl ?_
  refine rs_iv (as := [.int (Int32.ofNat (1 / 8)), .int (Int32.ofNat (1 / 8))]) (r := []) wk_q119 (show wk_at wk_m119 18 40 125 2 2 9 = true by decide +kernel) hJ.1 hu0 hk40 rfl rfl (Nat.le_of_ble_eq_true rfl) (mj := am_m125) rfl ⟨by decide, by decide, Nat.le_of_ble_eq_true rfl⟩ ?_
  refine j_thr hmc hU hut hJ (fun h1 hJ1 hl1 _ _ _ => ⟨_, h1, 0, 0, rfl, ?_⟩)
  rw [if_pos (by decide)]
  refine rs_ift wk_q119 (show wk_at wk_m119 21 22 0 26 0 0 = true by decide +kernel) (by decide +kernel) ?_
  obtain ⟨zb, hzb, -, -⟩ := md_fld hut hJ1.1 (i := 4) (lo := 0) (hi := 4294967295) (by decide) rfl
  refine rs_st (cmp := am_cmp) wk_q119 (show wk_at wk_m119 26 3 0 1 0 0 = true by decide +kernel) rfl ?_
  refine rs_get (cmp := am_cmp) wk_q119 (show wk_at wk_m119 27 25 9 4 0 0 = true by decide +kernel) hJ1.1 hu0 hk40 hzb ?_
  refine rs_st (cmp := am_cmp) wk_q119 (show wk_at wk_m119 30 4 2 1 0 0 = true by decide +kernel) rfl ?_
  refine rs_st (cmp := am_cmp) wk_q119 (show wk_at wk_m119 31 1 1 1 0 0 = true by decide +kernel) rfl ?_
  refine rs_st (cmp := am_cmp) wk_q119 (show wk_at wk_m119 32 4 3 1 0 0 = true by decide +kernel) rfl ?_
  refine jm_run_loop hmc hU hut hn (by omega) hT (L := h.length) (fun zi hx hJx hlx => ?_) n 0 (Int32.ofNat (1 / 8)) h1 (by omega) (by omega) hJ1 hl1
  obtain ⟨zc, hzc, -, -⟩ := md_fld hut hJx.1 (i := 4) (lo := 0) (hi := 4294967295) (by decide) rfl
  refine rs_st (cmp := am_cmp) wk_q119 (show wk_at wk_m119 48 3 0 1 0 0 = true by decide +kernel) rfl ?_
  refine rs_get (cmp := am_cmp) wk_q119 (show wk_at wk_m119 49 25 9 4 0 0 = true by decide +kernel) hJx.1 hu0 hk40 hzc ?_
  refine rs_st (cmp := am_cmp) wk_q119 (show wk_at wk_m119 52 2 2 1 0 0 = true by decide +kernel) rfl ?_
  refine rs_st (cmp := am_cmp) wk_q119 (show wk_at wk_m119 53 8 0 0 0 0 = true by decide +kernel) rfl ?_
  exact rs_en (cmp := am_cmp) wk_q119 (show wk_at wk_m119 54 44 0 0 0 0 = true by decide +kernel) rfl ⟨_, hx, rfl, by rw [hjn]; exact hJx, hlx⟩
set_option maxRecDepth 100000 in
theorem jm_now {τ u : Nat → Nat} {mc Tc Tm : Nat} (hmc : mc < 9) (hU : ab_U w_uq τ u) (hut : ∀ k, w_uq k = true → τ (u k) = k) {h : am_H} (hJ : j_J τ u mc Tc Tm h) {Q : am_R → Prop} (hQ : ∀ (z : Int32) h', ab_b z = Tm → j_J τ u mc Tc Tm h' → h'.length = h.length → Q (.inl (some (.int z)), h', 0, 0)) : cl_Rn am_m112 (0, [some (.ref (u 40))], [], h, 0, 0) Q := by
  have hu : τ (u 40) = 40 := hut 40 (by decide +kernel)
  have hu0 : τ (u 40) ≠ 0 := by rw [hu]; decide
  have hk40 : (w_kd (τ (u 40))).1 = 9 := by rw [hu]; rfl
  refine rs_st (cmp := am_cmp) wk_q112 (show wk_at wk_m112 0 3 0 1 0 0 = true by decide +kernel) rfl ?_
  refine rs_st (cmp := am_cmp) wk_q112 (show wk_at wk_m112 1 1 1 1 0 0 = true by decide +kernel) rfl ?_
  refine md_put hut wk_q112 (show wk_at wk_m112 2 26 9 0 0 0 = true by decide +kernel) (cl_0 (wr := j_mr) hJ.1) (by decide) (by decide +kernel) ⟨w_r 0 2, List.mem_singleton_self _, _, rfl, by decide, by decide⟩ (fun h1 hP1 e1 => ?_)
  have hs : ∀ x i, (x = u 40 → i ≠ 0) → ab_sl h1 x i = ab_sl h x i := fun x i hx => by rw [e1, if_neg (fun z => hx z.1 z.2)]
  have ht : ∀ {k i T}, (u k = u 40 → i ≠ 0) → j_t h (u k) i T → j_t h1 (u k) i T := fun {k i T} hk ⟨z, hz, hT⟩ => ⟨z, by rw [hs _ _ hk]; exact hz, hT⟩
  have hJ1 : j_J τ u mc Tc Tm h1 := j_ref hmc hut hJ hP1.1 (j_kk (M := 0) hut hJ hs) (j_sub (by decide +kernel) hP1.2.1) (ht (fun _ => by decide) hJ.2.2.2.1) (ht (fun _ => by decide) hJ.2.2.2.2.2.1)
  obtain ⟨z, hz, hT⟩ := hJ1.2.2.2.2.2.1
  refine rs_st (cmp := am_cmp) wk_q112 (show wk_at wk_m112 5 3 0 1 0 0 = true by decide +kernel) rfl ?_
  refine rs_get (cmp := am_cmp) wk_q112 (show wk_at wk_m112 6 25 9 1 0 0 = true by decide +kernel) hJ1.1 hu0 hk40 hz ?_
  exact rs_en (cmp := am_cmp) wk_q112 (show wk_at wk_m112 9 44 0 0 0 0 = true by decide +kernel) rfl (hQ z h1 hT hJ1 hP1.2.2)
set_option maxRecDepth 100000 in
theorem jc_now {τ u : Nat → Nat} {mc Tc Tm : Nat} (hmc : mc < 9) (hU : ab_U w_uq τ u) (hut : ∀ k, w_uq k = true → τ (u k) = k) {h : am_H} (hJ : j_J τ u mc Tc Tm h) {Q : am_R → Prop} (hQ : ∀ (z : Int32), ab_b z = Tc → Q (.inl (some (.int z)), h, 0, 0)) : cl_Rn am_m23 (0, [some (.ref (u 1))], [], h, 0, 0) Q := by
  have hu : τ (u 1) = 1 := hut 1 (by decide +kernel)
  have hu0 : τ (u 1) ≠ 0 := by rw [hu]; decide
  have hk1 : (w_kd (τ (u 1))).1 = 0 := by rw [hu]; rfl
  obtain ⟨z, hz, hT⟩ := hJ.2.2.2.2.1
  refine rs_st (cmp := am_cmp) wk_q23 (show wk_at wk_m23 0 3 0 1 0 0 = true by decide +kernel) rfl ?_
  refine rs_get (cmp := am_cmp) wk_q23 (show wk_at wk_m23 1 25 0 6 0 0 = true by decide +kernel) hJ.1 hu0 hk1 hz ?_
  exact rs_en (cmp := am_cmp) wk_q23 (show wk_at wk_m23 4 44 0 0 0 0 = true by decide +kernel) rfl (hQ z hT)
