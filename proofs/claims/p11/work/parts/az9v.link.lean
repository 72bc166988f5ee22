/-! ===== link: the routes ===== -/
theorem k_c75 : ∀ mc, mc < 9 → j_ok1 j_mca 0 0 0 [(1, 112, 0), w_r 0 7, w_r 0 1] (w_Ct mc 75 [(1, 112, 0), w_r 0 7, w_r 0 1]) = true ∧ ((w_Ct mc 75 [(1, 112, 0), w_r 0 7, w_r 0 1]).all fun C => C.2.1.isEmpty) = true := by decide +kernel
theorem k_c38 : ∀ mc, mc < 9 → j_ok1 j_mctk 0 0 0 [(1, 32, 0), w_r 0 7] (w_Ct mc 38 [(1, 32, 0), w_r 0 7]) = true ∧ ((w_Ct mc 38 [(1, 32, 0), w_r 0 7]).all fun C => C.2.1.isEmpty) = true := by decide +kernel
theorem k_turn {τ u : Nat → Nat} {mc Tc Tm : Nat} {xs : List Value} {h : am_H} (hmc : mc < 9) (hU : ab_U w_uq τ u) (hut : ∀ k, w_uq k = true → τ (u k) = k) (hJ : j_J τ u mc Tc Tm h) (hA : ab_gA τ 2147483648 (k_rho u 0) [(1, 112, 0), w_r 0 7, w_r 0 1] xs) : cl_Rn am_m75 (0, xs.map some ++ List.replicate (am_L am_m75 - xs.length) none, [], h, 0, 0) (fun r => ∃ h', r = (.inl none, h', 0, 0) ∧ j_J τ u mc Tc Tm h' ∧ g_P k_R τ h h') := by
  refine Rn_mono (j_runR hut k_rho_ad (k_c75 mc hmc).2 (k_c75 mc hmc).1 (fun C hC => cl_all hmc ⟨Nat.le_refl _, by decide⟩ hU hut 75 _ C hC) rfl hJ hJ.2.1 hA) (fun r hr => ?_)
  obtain ⟨v, h', k', q', rfl, hv, hI, hK, hF, -, hk, hq, hl, hz⟩ := hr
  obtain rfl : k' = 0 := Nat.le_zero.mp hk
  obtain rfl : q' = 0 := Nat.le_zero.mp hq
  rcases hv with ⟨-, rfl⟩ | ⟨e, -⟩
  · exact ⟨h', rfl, j_cls hmc hut hJ hI hK (j_sub (by decide +kernel) hF) (j_tk hut hJ.1 hF (by decide +kernel) (by decide) (by decide +kernel) hJ.2.2.2.2.1), g_of (fun k hk => k_RK hk) hJ.1 hI hF (by decide +kernel)⟩
  · cases e
set_option maxRecDepth 100000 in
theorem r_clink {τ u c : Nat → Nat} {mc Tc Tm : Nat} (hmc : mc < 9) (hU : ab_U w_uq τ u) (hut : ∀ k, w_uq k = true → τ (u k) = k) {h : am_H} (hJ : j_J τ u mc Tc Tm h) (hj : rc_j c) (hcu : r_cu c u) {w : Nat → Nat → Nat → Nat} {dn : Nat → Nat} (h16 : r_16 w) (h01 : r_01 dn) (hI : rc_I c w dn h) {z b : Int32} (hb : b = 0 ∨ b = 1) {r : am_R} (hr : Rd am_m18 (0, [some (.ref (u 1)), some (.int z), some (.int b)], [], h, 0, 0) r) : (¬ j_in z (Int32.ofNat 8) ∧ r = (.inr h.length, h ++ [(10, [])], 1, 6)) ∨ (∃ i, i < 8 ∧ z = Int32.ofNat i ∧ ((¬ Int32.ofNat (dn i) = b ∧ r = (.inr h.length, h ++ [(11, [])], 1, 6)) ∨ (Int32.ofNat (dn i) = b ∧ ∃ h', r = (.inl none, h', 0, 0) ∧ rc_I c (r_tu w i) (r_dt dn i (if b = 0 then 1 else 0)) h' ∧ g_P k_R τ h h'))) := by
  have sh : ∀ {hx : am_H}, j_J τ u mc Tc Tm hx → rv_C hx (u 1) 0 8 ∧ rv_C hx (u 2) 2 7 ∧ ab_sl hx (u 1) 0 = some (.ref (u 2)) ∧ ab_sl hx (u 2) 0 = some (.ref (c 0)) := fun {hx} hJx => ⟨rv_I hJx.1 (hut 1 (by decide +kernel)) (by decide), rv_I hJx.1 (hut 2 (by decide +kernel)) (by decide), j_row1 (mc := mc) hU hJx.1 (by rw [hut 1 (by decide +kernel)]; decide) (by rw [hut 1 (by decide +kernel)]; decide) (by rw [hut 1 (by decide +kernel)]; rfl) (by decide +kernel), by rw [hcu.1]; exact j_row1 (mc := mc) hU hJx.1 (by rw [hut 2 (by decide +kernel)]; decide) (by rw [hut 2 (by decide +kernel)]; decide) (by rw [hut 2 (by decide +kernel)]; rfl) (by decide +kernel)⟩
  obtain ⟨f1, f2, f10, f20⟩ := sh hJ
  have hr := iw_st wk_q18 (show wk_at wk_m18 0 2 1 1 0 0 = true by decide +kernel) hr rfl
  have hr := iw_st wk_q18 (show wk_at wk_m18 1 1 65 2 0 0 = true by decide +kernel) hr rfl
  obtain ⟨r1, hr1, hcr1⟩ := iw_is (as := [.int z, .int (Int32.ofNat (65 / 8))]) (r := []) wk_q18 (show wk_at wk_m18 3 40 13 2 0 0 = true by decide +kernel) rfl rfl (Nat.le_of_ble_eq_true rfl) (mj := am_m13) rfl hr
  have q1 := Rd_det (jc_below (a := z) (b := Int32.ofNat (65 / 8)) (Q := fun r => (j_in z (Int32.ofNat (65 / 8)) ∧ r = (.inl (some (.int 1)), h, 0, 0)) ∨ (¬ j_in z (Int32.ofNat (65 / 8)) ∧ r = (.inl (some (.int 0)), h, 0, 0))) (fun e => Or.inl ⟨e, rfl⟩) (fun e => Or.inr ⟨e, rfl⟩)) hr1
  have e8 : Int32.ofNat (65 / 8) = Int32.ofNat 8 := by decide
  rw [e8] at q1
  obtain ⟨w1, g1, k1, p1, er1, hr⟩ := iv_C_ret rfl hcr1
  rcases q1 with ⟨hin, rfl⟩ | ⟨hin, rfl⟩
  rotate_left
  · cases er1
    have hr := iw_iff wk_q18 (show wk_at wk_m18 6 22 1 19 0 0 = true by decide +kernel) (by decide) hr
    exact Or.inl ⟨hin, iw_en wk_q18 (show wk_at wk_m18 9 39 10 0 0 0 = true by decide +kernel) hr rfl⟩
  cases er1
  have hr := iw_ift wk_q18 (show wk_at wk_m18 6 22 1 19 0 0 = true by decide +kernel) (by decide) hr
  obtain ⟨i, hi, rfl⟩ := r_in (n := 8) (by decide) rfl hin
  have ei := r_b (a := i) (by omega)
  have hr := iw_st wk_q18 (show wk_at wk_m18 19 3 0 1 0 0 = true by decide +kernel) hr rfl
  have hr := rw_get wk_q18 (show wk_at wk_m18 20 25 0 0 0 0 = true by decide +kernel) f1 f10 hr
  have hr := rw_get wk_q18 (show wk_at wk_m18 23 25 2 0 0 0 = true by decide +kernel) f2 f20 hr
  have hr := iw_st wk_q18 (show wk_at wk_m18 26 2 1 1 0 0 = true by decide +kernel) hr rfl
  obtain ⟨x1, hx1, hcx1⟩ := rw_iv (as := [.int (Int32.ofNat i)]) (r := []) wk_q18 (show wk_at wk_m18 27 40 71 1 2 7 = true by decide +kernel) hI.1.1.1 rfl rfl (Nat.le_of_ble_eq_true rfl) (mj := am_m71) rfl hr
  have hqx1 := r_up hI.1 hi (h01 i) (hI.2.2.2 i hi) hx1
  subst hqx1
  obtain ⟨_, _, _, _, ex1, hr⟩ := iv_C_ret rfl hcx1
  cases ex1
  have hr := iw_st wk_q18 (show wk_at wk_m18 30 2 2 1 0 0 = true by decide +kernel) hr rfl
  have hbb : (Int32.ofNat (1 - dn i) = b) ↔ ¬ (Int32.ofNat (dn i) = b) := by rcases h01 i with e | e <;> rw [e] <;> rcases hb with rfl | rfl <;> decide
  by_cases hd : Int32.ofNat (dn i) = b
  · have hne : ¬ Int32.ofNat (1 - dn i) = b := fun e => hbb.mp e hd
    have hr := iw_ict wk_q18 (show wk_at wk_m18 31 23 1 44 0 0 = true by decide +kernel) (by show (!decide (Int32.ofNat (1 - dn i) = b)) = true; rw [decide_eq_false hne]; rfl) hr
    have hr := iw_st wk_q18 (show wk_at wk_m18 44 3 0 1 0 0 = true by decide +kernel) hr rfl
    have hr := rw_get wk_q18 (show wk_at wk_m18 45 25 0 0 0 0 = true by decide +kernel) f1 f10 hr
    have hr := rw_get wk_q18 (show wk_at wk_m18 48 25 2 0 0 0 = true by decide +kernel) f2 f20 hr
    have hr := iw_st wk_q18 (show wk_at wk_m18 51 2 1 1 0 0 = true by decide +kernel) hr rfl
    have hr := iw_st wk_q18 (show wk_at wk_m18 52 2 2 1 0 0 = true by decide +kernel) hr rfl
    obtain ⟨x2, hx2, hcx2⟩ := rw_iv (as := [.int (Int32.ofNat i), .int b]) (r := []) wk_q18 (show wk_at wk_m18 53 40 75 2 2 7 = true by decide +kernel) hI.1.1.1 rfl rfl (Nat.le_of_ble_eq_true rfl) (mj := am_m75) rfl hr
    have hbg : ab_gA τ 2147483648 (k_rho u 0) [(1, 112, 0), w_r 0 7, w_r 0 1] [.ref (c 0), .int (Int32.ofNat i), .int b] := ⟨Or.inr ⟨by rw [hcu.1]; rfl, hut 7 (by decide +kernel), by decide⟩, Or.inr (ab_g_0.mpr ⟨_, rfl, by show 2147483648 ≤ _; omega, by show _ ≤ 2147483655; omega⟩), Or.inr (ab_g_0.mpr ⟨_, rfl, by rcases hb with rfl | rfl <;> decide, by rcases hb with rfl | rfl <;> decide⟩), trivial⟩
    obtain ⟨⟨h2, rfl, hJ2, kr2⟩, hrd2⟩ := Rd_det (Rn_rd (k_turn hmc hU hut hJ hbg)) hx2
    obtain ⟨h2b, eh, hI2⟩ := r_turn hj h16 hI hi hrd2
    cases eh
    obtain ⟨_, _, _, _, ex2, hr⟩ := iv_C_ret rfl hcx2
    cases ex2
    obtain ⟨p1, p2, p10, p20⟩ := sh hJ2
    have hr := iw_st wk_q18 (show wk_at wk_m18 56 3 0 1 0 0 = true by decide +kernel) hr rfl
    have hr := rw_get wk_q18 (show wk_at wk_m18 57 25 0 0 0 0 = true by decide +kernel) p1 p10 hr
    have hr := iw_st wk_q18 (show wk_at wk_m18 60 2 1 1 0 0 = true by decide +kernel) hr rfl
    obtain ⟨x3, hx3, hcx3⟩ := rw_iv (as := [.int (Int32.ofNat i)]) (r := []) wk_q18 (show wk_at wk_m18 61 40 38 1 2 2 = true by decide +kernel) p2 rfl rfl (Nat.le_of_ble_eq_true rfl) (mj := am_m38) rfl hr
    obtain ⟨vb, h3, rfl, hv, hJ3, kp3, -⟩ := Rd_det (k_cal (y := 0) (xs := [.ref (u 2), .int (Int32.ofNat i)]) hmc hU hut (k_c38 mc hmc).1 (k_c38 mc hmc).2 rfl hJ2 ⟨Or.inr ⟨rfl, hut 2 (by decide +kernel), by decide⟩, Or.inr (ab_g_0.mpr ⟨_, rfl, by show 2147483648 ≤ _; omega, by show _ ≤ 2147483655; omega⟩), trivial⟩) hx3
    rcases hv with ⟨-, rfl⟩ | ⟨e, -⟩
    rotate_left
    · cases e
    obtain ⟨_, _, _, _, ex3, hr⟩ := iv_C_ret rfl hcx3
    cases ex3
    exact Or.inr ⟨i, hi, rfl, Or.inr ⟨hd, h3, iw_en wk_q18 (show wk_at wk_m18 64 46 0 0 0 0 = true by decide +kernel) hr rfl, rc_kP hut hU hut hcu hJ2.1 hJ3.1 (k_c kp3) hI2, g_trans kr2 (k_r kp3)⟩⟩
  · have hr := iw_icf wk_q18 (show wk_at wk_m18 31 23 1 44 0 0 = true by decide +kernel) (by show (!decide (Int32.ofNat (1 - dn i) = b)) = false; rw [decide_eq_true (hbb.mpr hd)]; rfl) hr
    exact Or.inr ⟨i, hi, rfl, Or.inl ⟨hd, iw_en wk_q18 (show wk_at wk_m18 34 39 11 0 0 0 = true by decide +kernel) hr rfl⟩⟩
set_option maxRecDepth 100000 in
theorem r_llink {τ u c : Nat → Nat} {mc Tc Tm : Nat} (hmc : mc < 9) (hU : ab_U w_uq τ u) (hut : ∀ k, w_uq k = true → τ (u k) = k) {h : am_H} (hJ : j_J τ u mc Tc Tm h) (hj : rc_j c) (hcu : r_cu c u) {w : Nat → Nat → Nat → Nat} {dn : Nat → Nat} (h16 : r_16 w) (h01 : r_01 dn) (hI : rc_I c w dn h) {z b : Int32} (hb : b = 0 ∨ b = 1) {r : am_R} (hr : Rd am_m135 (0, [some (.ref (u 1)), some (.int z), some (.int b), none], [], h, 0, 0) r) : ∃ (x : Int32) (h' : am_H) (k' q' : Nat), r = (.inl (some (.int x)), h', k', q') ∧ ((¬ j_in z (Int32.ofNat 8) ∧ x = 1 ∧ k_P τ h h') ∨ (∃ i, i < 8 ∧ z = Int32.ofNat i ∧ ((¬ Int32.ofNat (dn i) = b ∧ x = 2 ∧ k_P τ h h') ∨ (Int32.ofNat (dn i) = b ∧ x = 0 ∧ rc_I c (r_tu w i) (r_dt dn i (if b = 0 then 1 else 0)) h' ∧ g_P k_R τ h h')))) := by
  have e1 : rv_C h (u 1) 0 8 := rv_I hJ.1 (hut 1 (by decide +kernel)) (by decide)
  have lst : ∀ c : am_C, (h ++ [c])[h.length]? = some c := fun c => by rw [List.getElem?_append_right (Nat.le_refl _), Nat.sub_self]; rfl
  have hr := iw_st wk_q135 (show wk_at wk_m135 0 3 0 1 0 0 = true by decide +kernel) hr rfl
  have hr := iw_st wk_q135 (show wk_at wk_m135 1 2 1 1 0 0 = true by decide +kernel) hr rfl
  have hr := iw_st wk_q135 (show wk_at wk_m135 2 2 2 1 0 0 = true by decide +kernel) hr rfl
  obtain ⟨r1, hr1, hcr1⟩ := rw_iv (as := [.int z, .int b]) (r := []) wk_q135 (show wk_at wk_m135 3 40 18 2 2 0 = true by decide +kernel) e1 rfl rfl (Nat.le_of_ble_eq_true rfl) (mj := am_m18) rfl hr
  rcases r_clink hmc hU hut hJ hj hcu h16 h01 hI hb hr1 with ⟨hno, rfl⟩ | ⟨i, hi, rfl, ⟨hd, rfl⟩ | ⟨hd, h2, rfl, hI2, kr⟩⟩
  · rcases hcr1 with ⟨v, g1, k1, p1, e, -⟩ | ⟨x, g1, k1, p1, c, t, e, hx, ht, hr⟩
    · cases e
    · cases e
      rw [lst] at hx
      cases hx
      have ht9 : am_catch am_cx (am_h am_m135) 3 10 = some 9 := by decide +kernel
      have ht : am_catch am_cx (am_h am_m135) 3 10 = some t := ht
      rw [ht9] at ht
      cases ht
      have hr := iw_st wk_q135 (show wk_at wk_m135 9 5 3 1 0 0 = true by decide +kernel) hr rfl
      have hr := iw_st wk_q135 (show wk_at wk_m135 10 1 9 1 0 0 = true by decide +kernel) hr rfl
      exact ⟨_, _, _, _, iw_en wk_q135 (show wk_at wk_m135 11 44 0 0 0 0 = true by decide +kernel) hr rfl, Or.inl ⟨hno, by decide, k_app hJ.1⟩⟩
  · rcases hcr1 with ⟨v, g1, k1, p1, e, -⟩ | ⟨x, g1, k1, p1, c, t, e, hx, ht, hr⟩
    · cases e
    · cases e
      rw [lst] at hx
      cases hx
      have ht9 : am_catch am_cx (am_h am_m135) 3 11 = some 12 := by decide +kernel
      have ht : am_catch am_cx (am_h am_m135) 3 11 = some t := ht
      rw [ht9] at ht
      cases ht
      have hr := iw_st wk_q135 (show wk_at wk_m135 12 5 3 1 0 0 = true by decide +kernel) hr rfl
      have hr := iw_st wk_q135 (show wk_at wk_m135 13 1 17 1 0 0 = true by decide +kernel) hr rfl
      exact ⟨_, _, _, _, iw_en wk_q135 (show wk_at wk_m135 14 44 0 0 0 0 = true by decide +kernel) hr rfl, Or.inr ⟨i, hi, rfl, Or.inl ⟨hd, by decide, k_app hJ.1⟩⟩⟩
  · rcases hcr1 with ⟨v, g1, k1, p1, e, hr⟩ | ⟨x, g1, k1, p1, c, t, e, -⟩
    · cases e
      have hr := iw_st wk_q135 (show wk_at wk_m135 6 21 15 0 0 0 = true by decide +kernel) hr rfl
      have hr := iw_st wk_q135 (show wk_at wk_m135 15 1 1 1 0 0 = true by decide +kernel) hr rfl
      exact ⟨_, _, _, _, iw_en wk_q135 (show wk_at wk_m135 16 44 0 0 0 0 = true by decide +kernel) hr rfl, Or.inr ⟨i, hi, rfl, Or.inr ⟨hd, by decide, hI2, kr⟩⟩⟩
    · cases e
def j_mrl : Nat := 0xffffffffffffffffffffffffffffffff00000000000000000000000000000000000000000000000000000000000000000000000000000000000000000000000000000000000000000000000000000000000000000000000000000000000000000000000000000000000000000000000000000000000000000000000000000000000000000000000000000000000000000000000000000000000000000000000000000000000000000000000000000000000000000000000000000000000000000000000000000000000000000000000000000000000000000000000000000000000000000000000000000000000000000000000000000000000000000000000000000000000000000000000000000000000000000000000000000000000000000000000000000000000000000000000000000000000000000000000000000000000000000000000000000000000000000000000000000000
theorem rw_typ {τ : Nat → Nat} {mc tv t n x j : Nat} {h : am_H} {v : Value} (hI : ab_I w_kd w_un (w_G mc) τ tv h) (hx : τ x ≠ 0) (hk : w_kd (τ x) = (t, n)) (hjn : j < n) (hwr : ab_tb j_mrl (ab_bt w_kd (τ x) j) = true) (hg : ∃ w ∈ w_G mc (τ x) (ab_gi w_un (τ x) j), ab_gc τ tv w v) : ∃ vs, h[x]? = some (t, vs) ∧ j < vs.length ∧ ab_sl (h.set x (t, vs.set j v)) = rv_u (ab_sl h) x j v ∧ ab_I w_kd w_un (w_G mc) τ tv (h.set x (t, vs.set j v)) := by
  obtain ⟨vs, e1, e2, -⟩ := hI x hx
  rw [hk] at e1 e2
  have hl : j < vs.length := by rw [e2]; exact hjn
  obtain ⟨s1, s2⟩ := rs_set (wr := j_mrl) (k := 0) (v := v) (i := j) (cl_0 hI) hx e1 hl hwr hg
  exact ⟨vs, e1, hl, (rv_set e1 hl).1, s1.1⟩
/-- what link's loop has told before k -/
def r_pl (w : Nat → Nat → Nat → Nat) (i k : Nat) : Nat → Nat → Nat → Nat := fun a j l => if (a = i / 2 ∧ j = 4 + i % 2 ∧ l < k) ∨ (a = 4 + i % 2 ∧ j = i / 2 ∧ l + 4 < k) then 16 else w a j l
theorem r_pl8 {w : Nat → Nat → Nat → Nat} {i a j l : Nat} (hl : l < 4) : r_tu w i a j l = r_pl w i 8 a j l := by
  unfold r_tu r_wt r_pl
  by_cases e1 : a = 4 + i % 2 ∧ j = i / 2
  · rw [if_pos e1, if_pos (Or.inr ⟨e1.1, e1.2, by omega⟩)]
  · rw [if_neg e1]
    by_cases e2 : a = i / 2 ∧ j = 4 + i % 2
    · rw [if_pos e2, if_pos (Or.inl ⟨e2.1, e2.2, by omega⟩)]
    · rw [if_neg e2, if_neg (fun z => by rcases z with z | z; exact e2 ⟨z.1, z.2.1⟩; exact e1 ⟨z.1, z.2.1⟩)]
theorem r_lki {i : Nat} (hi : i < 8) : r_nb (i / 2) (4 + i % 2) ∧ r_lk (i / 2) (4 + i % 2) = i ∧ i / 2 < 4 := by
  have h4 : i / 2 < 4 := by omega
  refine ⟨Or.inl ⟨h4, by omega⟩, ?_, h4⟩
  unfold r_lk
  rw [if_pos h4]
  omega
theorem r_tu16 {w : Nat → Nat → Nat → Nat} {i : Nat} (h : r_16 w) : r_16 (r_tu w i) := r_wt16 (r_wt16 h (fun _ => Nat.le_refl _)) (fun _ => Nat.le_refl _)
theorem r_dt01 {dn : Nat → Nat} {i v : Nat} (h : r_01 dn) (hv : v = 0 ∨ v = 1) : r_01 (r_dt dn i v) := fun j => by
  unfold r_dt
  split
  · exact hv
  · exact h j
theorem r_tud {w : Nat → Nat → Nat → Nat} {dn : Nat → Nat} {i v : Nat} (hi : i < 8) (hd : r_dd w dn) : r_dd (r_tu w i) (r_dt dn i v) := by
  intro a j l hb h1
  obtain ⟨q1, q2, q3⟩ := r_lki hi
  unfold r_tu r_wt
  by_cases e1 : a = 4 + i % 2 ∧ j = i / 2
  · rw [if_pos e1]
  · rw [if_neg e1]
    by_cases e2 : a = i / 2 ∧ j = 4 + i % 2
    · rw [if_pos e2]
    · rw [if_neg e2]
      refine hd a j l hb ?_
      unfold r_dt at h1
      by_cases e : r_lk a j = i
      · exfalso
        unfold r_lk at e
        rcases hb with ⟨z1, z2⟩ | ⟨z1, z2⟩
        · rw [if_pos z1] at e
          exact e2 ⟨by omega, by omega⟩
        · rw [if_neg (by omega)] at e
          exact e1 ⟨by omega, by omega⟩
      · rw [if_neg e] at h1
        exact h1
set_option maxRecDepth 100000 in
theorem rl_tail {mc : Nat} {τ u : Nat → Nat} {tv : Nat} (hmc : mc < 9) (htv : 2147483648 ≤ tv ∧ tv ≤ 2147523647) (hU : ab_U w_uq τ u) (hut : ∀ k, w_uq k = true → τ (u k) = k) {h : am_H} (hI : ab_I w_kd w_un (w_G mc) τ tv h) (hK : km_K u mc h) {z1 z2 : Int32} (h1 : 2147483648 ≤ ab_b z1 ∧ ab_b z1 ≤ 2147483655) (h2 : 2147483648 ≤ ab_b z2 ∧ ab_b z2 ≤ 2147483649) : cl_Rn am_m106 (86, [some (.ref (u 40)), some (.int z1), some (.int z2), some (.int 0), some (.int (Int32.ofNat 0)), some (.int (Int32.ofNat 0))], [], h, 0, 0) (fun r => ∃ h', r = (.inl none, h', 0, 0) ∧ ab_I w_kd w_un (w_G mc) τ tv h' ∧ ab_Fr w_kd τ wtl_w h h') := by
  have hu : τ (u 40) = 40 := hut 40 (by decide +kernel)
  have z0 : ab_gc τ tv (w_e 0) (.int 0) := ⟨0, rfl, by decide, by decide⟩
  have key : ∀ {cut : Nat} {es : List ab_E}, (ab_tab w_kd w_un w_uq (w_G mc) am_cmp wk_tls am_cx wk_ms (wa_Ct mc) (w_crm mc) wk_m106 wtl_C wtl_p wtl_k [] cut es && ab_ms wtl_A es) = true → cl_Rn am_m106 (86, [some (.ref (u 40)), some (.int z1), some (.int z2), some (.int 0), some (.int (Int32.ofNat 0)), some (.int (Int32.ofNat 0))], [], h, 0, 0) (fun r => ∃ h', r = (.inl none, h', 0, 0) ∧ ab_I w_kd w_un (w_G mc) τ tv h' ∧ ab_Fr w_kd τ wtl_w h h') := fun {cut es} hok => by
    have hm : ab_m w_kd w_un (w_G mc) τ tv (km_K u mc) (fun _ => 0) (fun _ => 0) wtl_C.2.2.2.1 h (kc_rho u 0) wtl_A (86, [some (.ref (u 40)), some (.int z1), some (.int z2), some (.int 0), some (.int (Int32.ofNat 0)), some (.int (Int32.ofNat 0))], [], h, 0, 0) := by
      refine ⟨rfl, ⟨Or.inr ⟨_, rfl, rfl, hu, by decide⟩, Or.inr ⟨_, rfl, ab_g_0.mpr ⟨z1, rfl, h1.1, h1.2⟩⟩, Or.inr ⟨_, rfl, ab_g_0.mpr ⟨z2, rfl, h2.1, h2.2⟩⟩, Or.inr ⟨_, rfl, ab_g_0.mpr ⟨0, rfl, by decide, by decide⟩⟩, Or.inr ⟨_, rfl, ab_g_0.mpr ⟨Int32.ofNat 0, rfl, by decide, by decide⟩⟩, Or.inr ⟨_, rfl, ab_g_0.mpr ⟨Int32.ofNat 0, rfl, by decide, by decide⟩⟩, trivial⟩, trivial, fun f hf => (by cases hf), hI, hK, fun a ha => ⟨fun _ => rfl, fun _ i _ => rfl⟩, rfl, Nat.le_refl _, Nat.le_refl _, Nat.le_refl _, Nat.le_refl _⟩
    obtain ⟨h1, h2⟩ := ab_a2 hok
    obtain ⟨e, he, hle⟩ := ab_ms_ok h2
    obtain ⟨f, r, hr, hPo⟩ := ab_tab_ok (nF := wk_m106.2.2.2.1) wk_cmp_ok htv hU (km_pmK hut) wk_ms_ok (fun j as C mj hC _ _ => ma_all hmc htv hU hut j as C hC) (km_R hut) wk_q106 (Nat.le_refl _) h1 e he (kc_rho u 0) _ kc_rho_ad (ab_leS_ok htv hle hm)
    refine ⟨f, r, hr, ?_⟩
    obtain ⟨rv, h', k', q'⟩ := r
    obtain ⟨e, he, hend0, hH, -⟩ := hPo
    have := List.mem_singleton.mp he
    subst this
    rcases hend0 with ⟨-, hv⟩ | ⟨h1, -⟩ | ⟨h1, -⟩
    rotate_left
    · exact absurd (show (0 : Nat) = 1 from h1) (by decide)
    · exact absurd (show (0 : Nat) = 2 from h1) (by decide)
    have hv : rv = .inl none := hv
    subst hv
    obtain ⟨c1, -, c3, -, -, -, hk', hq'⟩ := hH
    obtain rfl : k' = 0 := Nat.le_zero.mp hk'
    obtain rfl : q' = 0 := Nat.le_zero.mp hq'
    exact ⟨h', rfl, c1, c3⟩
  have hcase : mc = 0 ∨ mc = 1 ∨ mc = 2 ∨ mc = 3 ∨ mc = 4 ∨ mc = 5 ∨ mc = 6 ∨ mc = 7 ∨ mc = 8 := by omega
  rcases hcase with rfl | rfl | rfl | rfl | rfl | rfl | rfl | rfl | rfl
  · exact key wtl_ok0
  · exact key wtl_ok1
  · exact key wtl_ok2
  · exact key wtl_ok3
  · exact key wtl_ok4
  · exact key wtl_ok5
  · exact key wtl_ok6
  · exact key wtl_ok7
  · exact key wtl_ok8
theorem r_b42 : ∀ j, j < 64 → ab_tb j_mrl (ab_bt w_kd 42 j) = true := by decide +kernel
theorem r_b41 : ∀ j, j < 8 → ab_tb j_mrl (ab_bt w_kd 41 j) = true := by decide +kernel
set_option maxRecDepth 100000 in
theorem tf_106 : fz_m tf_F (fun _ => false) tf_A 86 am_m106 = true := by decide +kernel
set_option maxRecDepth 100000 in
theorem r_ml50 {τ u c : Nat → Nat} {mc : Nat} (hmc : mc < 9) (hU : ab_U w_uq τ u) (hut : ∀ k, w_uq k = true → τ (u k) = k) {h : am_H} (hI : ab_I w_kd w_un (w_G mc) τ 2147483648 h) (hK : km_K u mc h) (hj : rc_j c) (hcu : r_cu c u) {w : Nat → Nat → Nat → Nat} {dn : Nat → Nat} (hR : rr_I c w dn h) {i : Nat} (hi : i < 8) {b : Int32} (hb : b = 0 ∨ b = 1) {r : am_R} (hr : Rd am_m106 (50, [some (.ref (u 40)), some (.int (Int32.ofNat i)), some (.int b), some (.int 0), none, none], [], h, 0, 0) r) : ∃ h', r = (.inl none, h', 0, 0) ∧ rr_I c (r_tu w i) dn h' ∧ g_P k_C τ h h' ∧ ab_sl h' (u 40) 0 = ab_sl h (u 40) 0 := by
  have hu : τ (u 40) = 40 := hut 40 (by decide +kernel)
  have t42 : τ (u 42) = 42 := hut 42 (by decide +kernel)
  have hud := md_ud hut
  have e25 : c 25 = u 42 := hcu.2.2.2.2.2.2.2.2
  have e23 : c 23 = u 40 := hcu.2.2.2.2.2.2.1
  obtain ⟨q1, q2, q3⟩ := r_lki hi
  have ei := r_b (a := i) (by omega)
  have loop : ∀ d k hx, k + d = 8 → rr_I c (r_pl w i k) dn hx → ab_I w_kd w_un (w_G mc) τ 2147483648 hx → (∀ a j, a ≠ u 42 → ab_sl hx a j = ab_sl h a j) → Rd am_m106 (53, [some (.ref (u 40)), some (.int (Int32.ofNat i)), some (.int b), some (.int 0), some (.int (Int32.ofNat k)), none], [], hx, 0, 0) r → ∃ h', r = (.inl none, h', 0, 0) ∧ rr_I c (r_tu w i) dn h' ∧ g_P k_C τ h h' ∧ ab_sl h' (u 40) 0 = ab_sl h (u 40) 0 := by
    intro d
    induction d with
    | zero =>
      intro k hx hd hRx hIx ho hr
      have e8 : k = 8 := by omega
      subst e8
      have hr := iw_st wk_q106 (show wk_at wk_m106 53 2 4 2 0 0 = true by decide +kernel) hr rfl
      have hr := iw_st wk_q106 (show wk_at wk_m106 55 1 65 2 0 0 = true by decide +kernel) hr rfl
      have hr := iw_ict wk_q106 (show wk_at wk_m106 57 23 3 80 0 0 = true by decide +kernel) (by rw [r_c3 (by omega) (by omega)]; exact decide_eq_true (by decide)) hr
      have hr := iw_st wk_q106 (show wk_at wk_m106 80 1 1 1 0 0 = true by decide +kernel) hr rfl
      have hr := iw_st wk_q106 (show wk_at wk_m106 81 4 4 2 0 0 = true by decide +kernel) hr rfl
      have hr := iw_st wk_q106 (show wk_at wk_m106 83 1 1 1 0 0 = true by decide +kernel) hr rfl
      have hr := iw_st wk_q106 (show wk_at wk_m106 84 4 5 2 0 0 = true by decide +kernel) hr rfl
      have hKx : km_K u mc hx := km_same (fun k hk i => by simp only [List.mem_cons, List.not_mem_nil, or_false] at hk; rcases hk with rfl | rfl | rfl | rfl | rfl | rfl | rfl | rfl | rfl <;> exact ho _ i (hud _ 42 (by decide +kernel) (by decide +kernel) (by decide))) (ho _ 19 (hud 40 42 (by decide +kernel) (by decide +kernel) (by decide))) hK
      obtain ⟨⟨h', rfl, hI', hF'⟩, hfz⟩ := Rd_det (tf_Rp (p0 := 86) tf_106 (Nat.le_refl _) (rl_tail (tv := 2147483648) hmc ⟨Nat.le_refl _, by decide⟩ hU hut hIx hKx (z1 := Int32.ofNat i) (z2 := b) ⟨by omega, by omega⟩ (by rcases hb with rfl | rfl <;> decide))) hr
      have kp := k_of hIx hI' hF' (by decide +kernel)
      have hR' := rr_kP hut hU hut hcu hI' (k_r kp) hRx
      obtain ⟨v40, e40, -, -⟩ := hIx (u 40) (by rw [hu]; decide)
      rw [hu] at e40
      have e40 : hx[u 40]? = some (9, v40) := e40
      refine ⟨h', rfl, rr_e hR' (fun a j l hl => r_pl8 hl), g_trans (fun a j ha => ho a j (fun e => by rw [e, t42] at ha; exact absurd ha (by decide +kernel))) (k_c kp), ?_⟩
      rw [tf_sl hfz e40 rfl]
      exact ho _ _ (hud 40 42 (by decide +kernel) (by decide +kernel) (by decide))
    | succ d ih =>
      intro k hx hd hRx hIx ho hr
      obtain ⟨⟨⟨nf, c23⟩, f5, f6⟩, c24, c25, sN, sT⟩ := id hRx
      rw [e23] at c23 f5 f6
      rw [e25] at f6
      have inc : Int32.ofNat k + Int32.ofNat 1 = Int32.ofNat (k + 1) := r_add (by omega) (by omega)
      have hr := iw_st wk_q106 (show wk_at wk_m106 53 2 4 2 0 0 = true by decide +kernel) hr rfl
      have hr := iw_st wk_q106 (show wk_at wk_m106 55 1 65 2 0 0 = true by decide +kernel) hr rfl
      have hr := iw_icf wk_q106 (show wk_at wk_m106 57 23 3 80 0 0 = true by decide +kernel) (by rw [r_c3 (by omega) (by omega)]; exact decide_eq_false (by show ¬ 65 / 8 ≤ k; omega)) hr
      have hr := iw_st wk_q106 (show wk_at wk_m106 60 3 0 1 0 0 = true by decide +kernel) hr rfl
      have hr := rw_get wk_q106 (show wk_at wk_m106 61 25 9 6 0 0 = true by decide +kernel) c23 f6 hr
      have hr := iw_st wk_q106 (show wk_at wk_m106 64 1 65 2 0 0 = true by decide +kernel) hr rfl
      have hr := iw_st wk_q106 (show wk_at wk_m106 66 2 1 1 0 0 = true by decide +kernel) hr rfl
      have hr := iw_st wk_q106 (show wk_at wk_m106 67 9 0 0 0 0 = true by decide +kernel) hr rfl
      rw [show Int32.ofNat (65 / 8) * Int32.ofNat i = Int32.ofNat (8 * i) from r_mul (by omega) (by omega)] at hr
      have hr := iw_st wk_q106 (show wk_at wk_m106 68 2 4 2 0 0 = true by decide +kernel) hr rfl
      have hr := iw_st wk_q106 (show wk_at wk_m106 70 7 0 0 0 0 = true by decide +kernel) hr rfl
      rw [r_add (by omega) (by omega)] at hr
      have hr := iw_st wk_q106 (show wk_at wk_m106 71 1 129 2 0 0 = true by decide +kernel) hr rfl
      obtain ⟨vs, ev, hl, vv, iv⟩ := rw_typ (v := .int (Int32.ofNat (129 / 8))) (j := 8 * i + k) hIx (by rw [t42]; decide) (by rw [t42]; rfl) (show 8 * i + k < 64 by omega) (by rw [t42]; exact r_b42 _ (by omega)) (by rw [t42]; exact ⟨ab_top, List.mem_singleton_self _, _, rfl, Nat.zero_le _, Nat.le_of_lt_succ (ab_b_lt _)⟩)
      have hix := ab_ix (z := Int32.ofNat (8 * i + k)) (by rw [r_b (by omega)]; omega)
      have hib : ab_b (Int32.ofNat (8 * i + k)) = 2147483648 + (8 * i + k) := r_b (by omega)
      have ew : am_wr hx (u 42) 100 vs (Int32.ofNat (8 * i + k)) (.int (Int32.ofNat (129 / 8))) = some (hx.set (u 42) (100, vs.set (8 * i + k) (.int (Int32.ofNat (129 / 8))))) := by
        unfold am_wr
        rw [if_neg hix.1, hix.2, hib, Nat.add_sub_cancel_left, if_pos hl]
      have hr := iw_st wk_q106 (show wk_at wk_m106 73 31 0 0 0 0 = true by decide +kernel) hr (S' := (74, _, [], hx.set (u 42) (100, vs.set (8 * i + k) (.int (Int32.ofNat (129 / 8)))), 0, 0)) (by simp only [wk_ex]; rw [ab_arr ev]; dsimp only; rw [ew]; rfl)
      have s1 : rv_S hx (hx.set (u 42) (100, vs.set (8 * i + k) (.int (Int32.ofNat (129 / 8))))) := (rv_set ev hl).2
      generalize hx.set (u 42) (100, vs.set (8 * i + k) (.int (Int32.ofNat (129 / 8)))) = hy at hr vv iv s1
      have ho2 : ∀ a j, a ≠ u 42 → ab_sl hy a j = ab_sl h a j := fun a j ha => by rw [vv, rv_ne ha]; exact ho a j ha
      have hRy : rr_I c (r_pl w i (k + 1)) dn hy := by
        by_cases hk4 : k < 4
        · refine rr_e (rr_w (m := i / 2) (n := 4 + i % 2) (l := k) (v := 16) hj hRx q1 hk4 s1 (by rw [q2, if_pos q3, e25]; exact vv)) (fun a j l hl4 => ?_)
          unfold r_w1 r_pl
          by_cases z : a = i / 2 ∧ j = 4 + i % 2 ∧ l = k
          · rw [if_pos z, if_pos (Or.inl ⟨z.1, z.2.1, by omega⟩)]
          · rw [if_neg z]
            by_cases y : (a = i / 2 ∧ j = 4 + i % 2 ∧ l < k) ∨ (a = 4 + i % 2 ∧ j = i / 2 ∧ l + 4 < k)
            · rw [if_pos y, if_pos (by rcases y with y | y; exact Or.inl ⟨y.1, y.2.1, by omega⟩; exact Or.inr ⟨y.1, y.2.1, by omega⟩)]
            · rw [if_neg y, if_neg (fun x => by rcases x with x | x; exact (if e : l = k then z ⟨x.1, x.2.1, e⟩ else y (Or.inl ⟨x.1, x.2.1, by omega⟩)); omega)]
        · refine rr_e (rr_w (m := 4 + i % 2) (n := i / 2) (l := k - 4) (v := 16) hj hRx (r_nbs q1).1 (by omega) s1 (by rw [(r_nbs q1).2, q2, if_neg (show ¬ 4 + i % 2 < 4 by omega), e25, show 8 * i + 4 + (k - 4) = 8 * i + k by omega]; exact vv)) (fun a j l hl4 => ?_)
          unfold r_w1 r_pl
          by_cases z : a = 4 + i % 2 ∧ j = i / 2 ∧ l = k - 4
          · rw [if_pos z, if_pos (Or.inr ⟨z.1, z.2.1, by omega⟩)]
          · rw [if_neg z]
            by_cases y : (a = i / 2 ∧ j = 4 + i % 2 ∧ l < k) ∨ (a = 4 + i % 2 ∧ j = i / 2 ∧ l + 4 < k)
            · rw [if_pos y, if_pos (by rcases y with y | y; exact Or.inl ⟨y.1, y.2.1, by omega⟩; exact Or.inr ⟨y.1, y.2.1, by omega⟩)]
            · rw [if_neg y, if_neg (fun x => by rcases x with x | x; exact y (Or.inl ⟨x.1, x.2.1, by omega⟩); exact (if e : l = k - 4 then z ⟨x.1, x.2.1, e⟩ else y (Or.inr ⟨x.1, x.2.1, by omega⟩)))]
      have hr : Rd am_m106 (74, [some (.ref (u 40)), some (.int (Int32.ofNat i)), some (.int b), some (.int 0), some (.int (Int32.ofNat k)), none], [], hy, 0, 0) r := hr
      have hr := iw_st wk_q106 (show wk_at wk_m106 74 6 4 1 0 0 = true by decide +kernel) hr rfl
      rw [inc] at hr
      have hr := iw_st wk_q106 (show wk_at wk_m106 77 21 53 0 0 0 = true by decide +kernel) hr rfl
      exact ih (k + 1) hy (by omega) hRy iv ho2 hr
  have hr := iw_st wk_q106 (show wk_at wk_m106 50 1 1 1 0 0 = true by decide +kernel) hr rfl
  have hr := iw_st wk_q106 (show wk_at wk_m106 51 4 4 2 0 0 = true by decide +kernel) hr rfl
  exact loop 8 0 h (by omega) (rr_e hR (fun a j l hl => if_neg (fun z => by rcases z with z | z <;> omega))) hI (fun _ _ _ => rfl) hr
set_option maxRecDepth 100000 in
theorem r_mlink {τ u c : Nat → Nat} {mc Tc Tm : Nat} (hmc : mc < 9) (hU : ab_U w_uq τ u) (hut : ∀ k, w_uq k = true → τ (u k) = k) {h : am_H} (hJ : j_J τ u mc Tc Tm h) (hj : rc_j c) (hcu : r_cu c u) {w : Nat → Nat → Nat → Nat} {dn : Nat → Nat} (h16 : r_16 w) (h01 : r_01 dn) (hdd : r_dd w dn) (hR : rr_I c w dn h) {z b : Int32} (hb : b = 0 ∨ b = 1) {r : am_R} (hr : Rd am_m106 (0, [some (.ref (u 40)), some (.int z), some (.int b), none, none, none], [], h, 0, 0) r) : ∃ h', r = (.inl none, h', 0, 0) ∧ ((¬ j_in z (Int32.ofNat 8) ∧ ab_sl h' (u 40) 0 = some (.int 1) ∧ k_P τ h h') ∨ (∃ i, i < 8 ∧ z = Int32.ofNat i ∧ ((¬ Int32.ofNat (dn i) = b ∧ ab_sl h' (u 40) 0 = some (.int 2) ∧ k_P τ h h') ∨ (Int32.ofNat (dn i) = b ∧ ab_sl h' (u 40) 0 = some (.int 0) ∧ rr_I c (r_tu w i) (r_dt dn i (if b = 0 then 1 else 0)) h' ∧ g_P k_C τ h h')))) := by
  have hu : τ (u 40) = 40 := hut 40 (by decide +kernel)
  have t41 : τ (u 41) = 41 := hut 41 (by decide +kernel)
  have hud := md_ud hut
  have e24 : c 24 = u 41 := hcu.2.2.2.2.2.2.2.1
  have e23 : c 23 = u 40 := hcu.2.2.2.2.2.2.1
  obtain ⟨⟨⟨nf, c23⟩, f5, f6⟩, c24, c25, sN, sT⟩ := id hR
  rw [e23] at c23 f5
  rw [e24] at f5
  have hr := iw_st wk_q106 (show wk_at wk_m106 0 2 1 1 0 0 = true by decide +kernel) hr rfl
  have hr := iw_st wk_q106 (show wk_at wk_m106 1 1 65 2 0 0 = true by decide +kernel) hr rfl
  obtain ⟨r1, hr1, hcr1⟩ := iw_is (as := [.int z, .int (Int32.ofNat (65 / 8))]) (r := []) wk_q106 (show wk_at wk_m106 3 40 113 2 0 0 = true by decide +kernel) rfl rfl (Nat.le_of_ble_eq_true rfl) (mj := am_m113) rfl hr
  have q1 := Rd_det (jm_out (a := z) (b := Int32.ofNat (65 / 8)) (Q := fun r => (j_in z (Int32.ofNat (65 / 8)) ∧ r = (.inl (some (.int 0)), h, 0, 0)) ∨ (¬ j_in z (Int32.ofNat (65 / 8)) ∧ r = (.inl (some (.int 1)), h, 0, 0))) (fun e => Or.inl ⟨e, rfl⟩) (fun e => Or.inr ⟨e, rfl⟩)) hr1
  have e8 : Int32.ofNat (65 / 8) = Int32.ofNat 8 := by decide
  rw [e8] at q1
  obtain ⟨w1, g1, k1, p1, er1, hr⟩ := iv_C_ret rfl hcr1
  rcases q1 with ⟨hin, rfl⟩ | ⟨hin, rfl⟩
  rotate_left
  · cases er1
    have hr := iw_st wk_q106 (show wk_at wk_m106 6 4 3 1 0 0 = true by decide +kernel) hr rfl
    have hr := iw_st wk_q106 (show wk_at wk_m106 7 3 0 1 0 0 = true by decide +kernel) hr rfl
    have hr := iw_st wk_q106 (show wk_at wk_m106 8 2 3 1 0 0 = true by decide +kernel) hr rfl
    have hr := iw_st wk_q106 (show wk_at wk_m106 9 2 3 1 0 0 = true by decide +kernel) hr rfl
    have hr := iw_ift wk_q106 (show wk_at wk_m106 10 22 1 27 0 0 = true by decide +kernel) (by decide) hr
    have hr := iw_st wk_q106 (show wk_at wk_m106 27 1 1 1 0 0 = true by decide +kernel) hr rfl
    obtain ⟨x1, hx1, hcx1⟩ := rw_iv (as := [.int ((1 : Int32)), .int (Int32.ofNat (1 / 8))]) (r := []) wk_q106 (show wk_at wk_m106 28 40 125 2 2 9 = true by decide +kernel) c23 rfl rfl (Nat.le_of_ble_eq_true rfl) (mj := am_m125) rfl hr
    obtain ⟨h1, rfl, hJ1, kp, ht, -⟩ := Rd_det (j_thr (a := (1 : Int32)) (b := Int32.ofNat (1 / 8)) (Q := fun r => ∃ h', r = (.inl (some (.int (if ((1 : Int32)) = 0 ∧ (Int32.ofNat (1 / 8)) = 0 then 0 else 1))), h', 0, 0) ∧ j_J τ u mc Tc Tm h' ∧ k_P τ h h' ∧ ab_sl h' (u 40) 0 = some (.int (jm_tv ((1 : Int32)) (Int32.ofNat (1 / 8)))) ∧ ab_sl h' (u 39) 0 = ab_sl h (u 39) 0) hmc hU hut hJ (fun h' hJ' hl _ hs ht => ⟨h', rfl, hJ', k_ne hut (κ := 40) (by decide +kernel) (by decide +kernel) (fun a i ha => hs a i (fun e => absurd e ha)), ht, hs _ _ (fun e => absurd e (md_ud hut 39 40 (by decide +kernel) (by decide +kernel) (by decide)))⟩)) hx1
    obtain ⟨_, _, _, _, ex1, hr⟩ := iv_C_ret rfl hcx1
    cases ex1
    have hr := iw_iff wk_q106 (show wk_at wk_m106 31 22 0 35 0 0 = true by decide +kernel) (by decide) hr
    exact ⟨_, iw_en wk_q106 (show wk_at wk_m106 34 46 0 0 0 0 = true by decide +kernel) hr rfl, Or.inl ⟨hin, by rw [ht]; rfl, kp⟩⟩
  cases er1
  obtain ⟨i, hi, rfl⟩ := r_in (n := 8) (by decide) rfl hin
  have hr := iw_st wk_q106 (show wk_at wk_m106 6 4 3 1 0 0 = true by decide +kernel) hr rfl
  have hr := iw_st wk_q106 (show wk_at wk_m106 7 3 0 1 0 0 = true by decide +kernel) hr rfl
  have hr := iw_st wk_q106 (show wk_at wk_m106 8 2 3 1 0 0 = true by decide +kernel) hr rfl
  have hr := iw_st wk_q106 (show wk_at wk_m106 9 2 3 1 0 0 = true by decide +kernel) hr rfl
  have hr := iw_iff wk_q106 (show wk_at wk_m106 10 22 1 27 0 0 = true by decide +kernel) (by decide) hr
  have hr := iw_st wk_q106 (show wk_at wk_m106 13 3 0 1 0 0 = true by decide +kernel) hr rfl
  have hr := rw_get wk_q106 (show wk_at wk_m106 14 25 9 5 0 0 = true by decide +kernel) c23 f5 hr
  have hr := iw_st wk_q106 (show wk_at wk_m106 17 2 1 1 0 0 = true by decide +kernel) hr rfl
  rw [e24] at c24 sN
  have hr := rw_bal wk_q106 (show wk_at wk_m106 18 28 0 0 0 0 = true by decide +kernel) c24 (by omega) (sN i hi) hr
  have hr := iw_st wk_q106 (show wk_at wk_m106 19 2 2 1 0 0 = true by decide +kernel) hr rfl
  by_cases hd : Int32.ofNat (dn i) = b
  rotate_left
  · have hr := iw_icf wk_q106 (show wk_at wk_m106 20 23 0 27 0 0 = true by decide +kernel) (by show decide (Int32.ofNat (dn i) = b) = false; exact decide_eq_false hd) hr
    have hr := iw_st wk_q106 (show wk_at wk_m106 23 1 9 1 0 0 = true by decide +kernel) hr rfl
    have hr := iw_st wk_q106 (show wk_at wk_m106 24 21 28 0 0 0 = true by decide +kernel) hr rfl
    obtain ⟨x1, hx1, hcx1⟩ := rw_iv (as := [.int ((0 : Int32)), .int (Int32.ofNat (9 / 8))]) (r := []) wk_q106 (show wk_at wk_m106 28 40 125 2 2 9 = true by decide +kernel) c23 rfl rfl (Nat.le_of_ble_eq_true rfl) (mj := am_m125) rfl hr
    obtain ⟨h1, rfl, hJ1, kp, ht, -⟩ := Rd_det (j_thr (a := (0 : Int32)) (b := Int32.ofNat (9 / 8)) (Q := fun r => ∃ h', r = (.inl (some (.int (if ((0 : Int32)) = 0 ∧ (Int32.ofNat (9 / 8)) = 0 then 0 else 1))), h', 0, 0) ∧ j_J τ u mc Tc Tm h' ∧ k_P τ h h' ∧ ab_sl h' (u 40) 0 = some (.int (jm_tv ((0 : Int32)) (Int32.ofNat (9 / 8)))) ∧ ab_sl h' (u 39) 0 = ab_sl h (u 39) 0) hmc hU hut hJ (fun h' hJ' hl _ hs ht => ⟨h', rfl, hJ', k_ne hut (κ := 40) (by decide +kernel) (by decide +kernel) (fun a i ha => hs a i (fun e => absurd e ha)), ht, hs _ _ (fun e => absurd e (md_ud hut 39 40 (by decide +kernel) (by decide +kernel) (by decide)))⟩)) hx1
    obtain ⟨_, _, _, _, ex1, hr⟩ := iv_C_ret rfl hcx1
    cases ex1
    have hr := iw_iff wk_q106 (show wk_at wk_m106 31 22 0 35 0 0 = true by decide +kernel) (by decide) hr
    exact ⟨_, iw_en wk_q106 (show wk_at wk_m106 34 46 0 0 0 0 = true by decide +kernel) hr rfl, Or.inr ⟨i, hi, rfl, Or.inl ⟨hd, by rw [ht]; rfl, kp⟩⟩⟩
  have hr := iw_ict wk_q106 (show wk_at wk_m106 20 23 0 27 0 0 = true by decide +kernel) (by show decide (Int32.ofNat (dn i) = b) = true; exact decide_eq_true hd) hr
  have hr := iw_st wk_q106 (show wk_at wk_m106 27 1 1 1 0 0 = true by decide +kernel) hr rfl
  obtain ⟨x1, hx1, hcx1⟩ := rw_iv (as := [.int ((0 : Int32)), .int (Int32.ofNat (1 / 8))]) (r := []) wk_q106 (show wk_at wk_m106 28 40 125 2 2 9 = true by decide +kernel) c23 rfl rfl (Nat.le_of_ble_eq_true rfl) (mj := am_m125) rfl hr
  obtain ⟨h1, rfl, hJ1, kp, ht, -⟩ := Rd_det (j_thr (a := (0 : Int32)) (b := Int32.ofNat (1 / 8)) (Q := fun r => ∃ h', r = (.inl (some (.int (if ((0 : Int32)) = 0 ∧ (Int32.ofNat (1 / 8)) = 0 then 0 else 1))), h', 0, 0) ∧ j_J τ u mc Tc Tm h' ∧ k_P τ h h' ∧ ab_sl h' (u 40) 0 = some (.int (jm_tv ((0 : Int32)) (Int32.ofNat (1 / 8)))) ∧ ab_sl h' (u 39) 0 = ab_sl h (u 39) 0) hmc hU hut hJ (fun h' hJ' hl _ hs ht => ⟨h', rfl, hJ', k_ne hut (κ := 40) (by decide +kernel) (by decide +kernel) (fun a i ha => hs a i (fun e => absurd e ha)), ht, hs _ _ (fun e => absurd e (md_ud hut 39 40 (by decide +kernel) (by decide +kernel) (by decide)))⟩)) hx1
  obtain ⟨_, _, _, _, ex1, hr⟩ := iv_C_ret rfl hcx1
  cases ex1
  have hr := iw_ift wk_q106 (show wk_at wk_m106 31 22 0 35 0 0 = true by decide +kernel) (by decide) hr
  have hR1 := rr_kP hut hU hut hcu hJ1.1 (k_r kp) hR
  obtain ⟨⟨⟨nf1, d23⟩, d5, d6⟩, d24, d25, dN, dT⟩ := id hR1
  rw [e23] at d23 d5
  rw [e24] at d5 d24
  have hr := iw_st wk_q106 (show wk_at wk_m106 35 3 0 1 0 0 = true by decide +kernel) hr rfl
  have hr := rw_get wk_q106 (show wk_at wk_m106 36 25 9 5 0 0 = true by decide +kernel) d23 d5 hr
  have hr := iw_st wk_q106 (show wk_at wk_m106 39 2 1 1 0 0 = true by decide +kernel) hr rfl
  have hr := iw_st wk_q106 (show wk_at wk_m106 40 2 2 1 0 0 = true by decide +kernel) hr rfl
  have hr := iw_not wk_q106 (show wk_at wk_m106 41 22 1 48 0 0 = true by decide +kernel) (show wk_at wk_m106 44 1 9 1 0 0 = true by decide +kernel) (show wk_at wk_m106 45 21 49 0 0 0 = true by decide +kernel) (show wk_at wk_m106 48 1 1 1 0 0 = true by decide +kernel) hr
  have eb : (if b = 0 then (1 : Int32) else 0) = Int32.ofNat (if b = 0 then 1 else 0) := by split <;> rfl
  rw [eb] at hr
  obtain ⟨vs, ev, hl, vv, iv⟩ := rw_typ (v := .int (Int32.ofNat (if b = 0 then 1 else 0))) (j := i) hJ1.1 (by rw [t41]; decide) (by rw [t41]; rfl) hi (by rw [t41]; exact r_b41 _ hi) (by rw [t41]; exact ⟨w_r 0 1, List.mem_singleton_self _, _, rfl, by split <;> decide, by split <;> decide⟩)
  have ei := r_b (a := i) (by omega)
  have hx_ : ab_b (Int32.ofNat i) - 2147483648 = i := by omega
  have hr := iw_bas wk_q106 (show wk_at wk_m106 49 32 0 0 0 0 = true by decide +kernel) ev (by omega) (by rw [hx_]; exact hl) (by split <;> rfl) hr
  rw [hx_] at hr
  have s1 : rv_S h1 (h1.set (u 41) (101, vs.set i (.int (Int32.ofNat (if b = 0 then 1 else 0))))) := (rv_set ev hl).2
  generalize h1.set (u 41) (101, vs.set i (.int (Int32.ofNat (if b = 0 then 1 else 0)))) = h2 at hr vv iv s1
  have ho : ∀ a j, a ≠ u 41 → ab_sl h2 a j = ab_sl h1 a j := fun a j ha => by rw [vv, rv_ne ha]
  have hK2 : km_K u mc h2 := km_same (fun k hk i => by simp only [List.mem_cons, List.not_mem_nil, or_false] at hk; rcases hk with rfl | rfl | rfl | rfl | rfl | rfl | rfl | rfl | rfl <;> exact ho _ i (hud _ 41 (by decide +kernel) (by decide +kernel) (by decide))) (ho _ 19 (hud 40 41 (by decide +kernel) (by decide +kernel) (by decide))) hJ1.2.2.1
  have hR2 : rr_I c w (r_dt dn i (if b = 0 then 1 else 0)) h2 := by
    obtain ⟨⟨⟨nf2, g23⟩, g5, g6⟩, g24, g25, gN, gT⟩ := hR1
    have n1 : c 23 ≠ u 41 := by rw [e23]; exact hud 40 41 (by decide +kernel) (by decide +kernel) (by decide)
    have n2 : c 25 ≠ u 41 := by rw [hcu.2.2.2.2.2.2.2.2]; exact hud 42 41 (by decide +kernel) (by decide +kernel) (by decide)
    refine ⟨⟨⟨nf2, s1 _ _ _ g23⟩, by rw [ho _ _ n1]; exact g5, by rw [ho _ _ n1]; exact g6⟩, s1 _ _ _ g24, s1 _ _ _ g25, fun k hk => ?_, fun a m l hb hl => by rw [ho _ _ n2]; exact gT a m l hb hl⟩
    unfold r_dt
    rw [e24, vv]
    by_cases e : k = i
    · rw [if_pos e, e, rv_eq]
    · rw [if_neg e, rv_nj e, ← e24]
      exact gN k hk
  obtain ⟨h', rfl, a1, a2, a3⟩ := r_ml50 hmc hU hut iv hK2 hj hcu hR2 hi hb hr
  refine ⟨h', rfl, Or.inr ⟨i, hi, rfl, Or.inr ⟨hd, ?_, a1, g_trans (k_c kp) (g_trans (fun a j ha => ho a j (fun e => by rw [e, t41] at ha; exact absurd ha (by decide +kernel))) a2)⟩⟩⟩
  rw [a3, ho _ _ (hud 40 41 (by decide +kernel) (by decide +kernel) (by decide)), ht]
  rfl
