/-! ===== the reference: a packet arrives ===== -/
theorem md_tail {mc : Nat} {τ u : Nat → Nat} {tv : Nat} (hmc0 : mc ≠ 0) (hmc : mc < 9) (htv : 2147483648 ≤ tv ∧ tv ≤ 2147523647) (hU : ab_U w_uq τ u) (hut : ∀ k, w_uq k = true → τ (u k) = k) {h : am_H} (hI : ab_I w_kd w_un (w_G mc) τ tv h) (hK : km_K u mc h) {zi zw : Int32} {o : Option Value} (hzw : ab_sl h (u 40) 19 = some (.int zw)) (hw : ab_b zw = 2147483648) : cl_Rn am_m84 (41, [some (.ref (u 40)), some (.int zi), o], [], h, 0, 0) (ab_Po w_kd w_un (w_G mc) τ u tv (km_K u mc) (km_F u) (km_Q u) wga_C h) := by
  have hu : τ (u 40) = 40 := hut 40 (by decide +kernel)
  have hm : ab_m w_kd w_un (w_G mc) τ tv (km_K u mc) (km_F u) (km_Q u) wga_C.2.2.2.1 h (kc_rho u 0) wga_A (41, [some (.ref (u 40)), some (.int zi), o], [], h, 0, 0) := by
    refine ⟨rfl, ⟨Or.inr ⟨_, rfl, rfl, hu, by decide⟩, Or.inr ⟨_, rfl, zi, rfl, Nat.zero_le _, Nat.le_of_lt_succ (ab_b_lt zi)⟩, Or.inl rfl, trivial⟩, trivial, fun f hf => ?_, hI, hK, fun a ha => ⟨fun _ => rfl, fun _ i _ => rfl⟩, rfl, Nat.le_refl _, Nat.le_refl _, Nat.le_refl _, Nat.le_refl _⟩
    have := List.mem_singleton.mp hf
    subst this
    exact md_fk hu hzw (lo := Nat.add 2147483648 0) (hi := Nat.add 2147483648 0) (by rw [hw]; exact Nat.le_refl _) (by rw [hw]; exact Nat.le_refl _)
  have key : ∀ {cut : Nat} {es : List ab_E}, (ab_tab w_kd w_un w_uq (w_G mc) am_cmp wk_tls am_cx wk_ms (wg_Ct mc) (w_crm mc) wk_m84 wga_C wga_p wga_k [] cut es && ab_ms wga_A es) = true → cl_Rn am_m84 (41, [some (.ref (u 40)), some (.int zi), o], [], h, 0, 0) (ab_Po w_kd w_un (w_G mc) τ u tv (km_K u mc) (km_F u) (km_Q u) wga_C h) := fun {cut es} hok => by
    obtain ⟨h1, h2⟩ := ab_a2 hok
    obtain ⟨e, he, hle⟩ := ab_ms_ok h2
    exact ab_tab_ok (nF := wk_m84.2.2.2.1) wk_cmp_ok htv hU (km_pmG hut) wk_ms_ok (fun j as C mj hC _ _ => md_all hmc0 hmc htv hU hut j as C hC) (km_R hut) wk_q84 (Nat.le_refl _) h1 e he (kc_rho u 0) _ kc_rho_ad (ab_leS_ok htv hle hm)
  have hcase : mc = 1 ∨ mc = 2 ∨ mc = 3 ∨ mc = 4 ∨ mc = 5 ∨ mc = 6 ∨ mc = 7 ∨ mc = 8 := by omega
  rcases hcase with rfl | rfl | rfl | rfl | rfl | rfl | rfl | rfl
  · exact key wga_ok1
  · exact key wga_ok2
  · exact key wga_ok3
  · exact key wga_ok4
  · exact key wga_ok5
  · exact key wga_ok6
  · exact key wga_ok7
  · exact key wga_ok8
def md_arrC (w : Nat) : ab_C := ([(1, 640, 0)], [(640, 19, w_e 0), (640, 7, w_r 1 60)], [(0, (3, 0, 0), [(640, 19, w_r 0 8)])], w, (1100, 1001, 0, 0))
theorem md_cw40 (i : Nat) (hi : i < 64) : ab_tb md_copy.2.2.2.1 (ab_bt w_kd 40 i) = false := by
  have hb : ab_bt w_kd 40 i = 2560 + i := rfl
  rw [hb]
  have : ∀ j, j < 64 → ab_tb md_copy.2.2.2.1 (2560 + j) = false := by decide +kernel
  exact this i hi
set_option maxRecDepth 100000 in
/-- the packets move up -/
theorem md_arr_loop {mc : Nat} {τ u : Nat → Nat} {tv wr : Nat} (hU : ab_U w_uq τ u) (hut : ∀ k, w_uq k = true → τ (u k) = k) (hVc : md_Vd mc τ u tv 86 md_copy) (hl : Nat.beq (Nat.land md_copy.2.2.2.1 wr) md_copy.2.2.2.1 = true) {h0 : am_H} {F0 Q0 : Nat} {zp zw : Int32} {p : Nat} (hp : ab_b zp = 2147483648 + p) (p60 : p < 60) {Q : am_R → Prop} (hQ : ∀ (zi : Int32) hx, cl_H mc τ tv wr h0 hx 0 → km_K u mc hx → km_F u hx ≤ F0 → km_Q u hx ≤ Q0 → ab_sl hx (u 40) 19 = some (.int zw) → cl_Rn am_m84 (41, [some (.ref (u 40)), some (.int zi), none], [], hx, 0, 0) Q) : ∀ (d i : Nat) (zi : Int32) (hx : am_H), d + i = p → ab_b zi = 2147483648 + i → cl_H mc τ tv wr h0 hx 0 → km_K u mc hx → km_F u hx ≤ F0 → km_Q u hx ≤ Q0 → ab_sl hx (u 40) 19 = some (.int zw) → ab_sl hx (u 40) 7 = some (.int zp) → cl_Rn am_m84 (19, [some (.ref (u 40)), some (.int zi), none], [], hx, 0, 0) Q := by
  have hu : τ (u 40) = 40 := hut 40 (by decide +kernel)
  have hu0 : τ (u 40) ≠ 0 := by rw [hu]; decide
  have hk40 : (w_kd (τ (u 40))).1 = 9 := by rw [hu]; rfl
  have c1 : ab_b (Int32.ofNat (9 / 8)) = 2147483649 := by decide
  have c1' : ab_b (Int32.ofNat 1) = 2147483649 := by decide
  intro d
  induction d with
  | zero =>
    intro i zi hx hd hzi hP hK hF hq hw h7
    refine rs_st (cmp := am_cmp) wk_q84 (show wk_at wk_m84 19 2 1 1 0 0 = true by decide +kernel) rfl ?_
    refine rs_st (cmp := am_cmp) wk_q84 (show wk_at wk_m84 20 3 0 1 0 0 = true by decide +kernel) rfl ?_
    refine md_get hut wk_q84 (show wk_at wk_m84 21 25 9 7 0 0 = true by decide +kernel) hP.1 (v := .int zp) h7 ?_
    refine rs_ict wk_q84 (show wk_at wk_m84 24 23 3 41 0 0 = true by decide +kernel) (by show decide (zp ≤ zi) = true; exact decide_eq_true (ab_b_lei.mpr (by omega))) ?_
    exact hQ zi hx hP hK hF hq hw
  | succ d ih =>
    intro i zi hx hd hzi hP hK hF hq hw h7
    have hinc := ab_b_add (x := zi) (y := Int32.ofNat 1) (by omega) (by omega)
    have hinc' := ab_b_add (x := zi) (y := Int32.ofNat (9 / 8)) (by omega) (by omega)
    refine rs_st (cmp := am_cmp) wk_q84 (show wk_at wk_m84 19 2 1 1 0 0 = true by decide +kernel) rfl ?_
    refine rs_st (cmp := am_cmp) wk_q84 (show wk_at wk_m84 20 3 0 1 0 0 = true by decide +kernel) rfl ?_
    refine md_get hut wk_q84 (show wk_at wk_m84 21 25 9 7 0 0 = true by decide +kernel) hP.1 (v := .int zp) h7 ?_
    refine rs_icf wk_q84 (show wk_at wk_m84 24 23 3 41 0 0 = true by decide +kernel) (by show decide (zp ≤ zi) = false; exact decide_eq_false (fun hle => by have := ab_b_lei.mp hle; omega)) ?_
    refine rs_st (cmp := am_cmp) wk_q84 (show wk_at wk_m84 27 3 0 1 0 0 = true by decide +kernel) rfl ?_
    refine rs_st (cmp := am_cmp) wk_q84 (show wk_at wk_m84 28 2 1 1 0 0 = true by decide +kernel) rfl ?_
    refine rs_st (cmp := am_cmp) wk_q84 (show wk_at wk_m84 29 1 9 1 0 0 = true by decide +kernel) rfl ?_
    refine rs_st (cmp := am_cmp) wk_q84 (show wk_at wk_m84 30 7 0 0 0 0 = true by decide +kernel) rfl ?_
    refine rs_st (cmp := am_cmp) wk_q84 (show wk_at wk_m84 31 2 1 1 0 0 = true by decide +kernel) rfl ?_
    refine rs_iv (as := [.int (zi + Int32.ofNat (9 / 8)), .int zi]) (r := []) wk_q84 (show wk_at wk_m84 32 40 86 2 2 9 = true by decide +kernel) hP.1 hu0 hk40 rfl rfl (Nat.le_of_ble_eq_true rfl) (mj := am_m86) rfl ⟨by decide, by decide, Nat.le_of_ble_eq_true rfl⟩ ?_
    refine rs_cv (as := [.ref (u 40), .int (zi + Int32.ofNat (9 / 8)), .int zi]) (ρ := kc_rho u 0) hVc rfl kc_rho_ad hP.1 hK ⟨Or.inr ⟨rfl, hu, by decide⟩, Or.inr (ab_g_0.mpr ⟨_, rfl, by rw [md_a]; omega, by rw [md_a]; omega⟩), Or.inr (ab_g_0.mpr ⟨_, rfl, by rw [md_a]; omega, by rw [md_a]; omega⟩), trivial⟩ (fun f hf => by cases hf) (by intro e he; have := List.mem_singleton.mp he; subst this; decide) rfl (fun v g1 k' q' hPo => ⟨v, g1, k', q', rfl, ?_⟩)
    obtain ⟨e, he, hend0, hH, -⟩ := hPo
    have := List.mem_singleton.mp he
    subst this
    rcases hend0 with ⟨-, hv⟩ | ⟨h1, -⟩ | ⟨h1, -⟩
    rotate_left
    · cases h1
    · cases h1
    have hv : v = none := Sum.inl.inj hv
    subst hv
    have hP1 := rs_tr (wr := wr) hl hP hH
    obtain ⟨-, hK1, hFr1, -, hp0, hp1, hk', hq'⟩ := hH
    obtain rfl : k' = 0 := Nat.le_zero.mp hk'
    obtain rfl : q' = 0 := Nat.le_zero.mp hq'
    have o1 : ∀ i, i < 64 → ab_sl g1 (u 40) i = ab_sl hx (u 40) i := fun i hi => (hFr1 (u 40) (ab_typed hP.1 hu0)).2 hu0 i (by rw [hu]; exact md_cw40 i hi)
    have hp0 : km_F u g1 + 1000 ≤ km_F u hx + 1000 := hp0
    have hp1 : km_Q u g1 + 1000 ≤ km_Q u hx + 1000 := hp1
    refine rs_st (cmp := am_cmp) wk_q84 (show wk_at wk_m84 35 6 1 1 0 0 = true by decide +kernel) rfl ?_
    refine rs_st (cmp := am_cmp) wk_q84 (show wk_at wk_m84 38 21 19 0 0 0 = true by decide +kernel) rfl ?_
    exact ih (i + 1) (zi + Int32.ofNat 1) g1 (by omega) (by omega) hP1 hK1 (by omega) (by omega) (by rw [o1 19 (by decide)]; exact hw) (by rw [o1 7 (by decide)]; exact h7)
set_option maxRecDepth 100000 in
theorem md_arr_ok {mc : Nat} {τ u : Nat → Nat} {tv wr : Nat} (hmc0 : mc ≠ 0) (hmc : mc < 9) (htv : 2147483648 ≤ tv ∧ tv ≤ 2147523647) (hU : ab_U w_uq τ u) (hut : ∀ k, w_uq k = true → τ (u k) = k) (hVc : md_Vd mc τ u tv 86 md_copy) (hl : Nat.beq (Nat.land md_copy.2.2.2.1 wr) md_copy.2.2.2.1 = true) (hlt : Nat.beq (Nat.land wga_C.2.2.2.1 wr) wga_C.2.2.2.1 = true) (hw7 : ab_tb wr (ab_bt w_kd 40 7) = true) : md_Vd mc τ u tv 84 (md_arrC wr) := by
  intro mj hmj ρ h as had hI hK hA hF
  have hmj : am_m84 = mj := Option.some.inj hmj
  subst hmj
  match as, hA with
  | [v0], hA =>
    obtain ⟨h0, -⟩ := hA
    rcases h0 with h0 | ⟨rfl, x1, x2⟩
    · cases h0
    have hx : ρ 640 = u 40 := had 40 (by decide +kernel)
    have hu : τ (u 40) = 40 := hut 40 (by decide +kernel)
    have hu0 : τ (u 40) ≠ 0 := by rw [hu]; decide
    have hk40 : (w_kd (τ (u 40))).1 = 9 := by rw [hu]; rfl
    have hud := md_ud hut
    have c1 : ab_b (Int32.ofNat (9 / 8)) = 2147483649 := by decide
    have c0 : ab_b (Int32.ofNat (1 / 8)) = 2147483648 := by decide
    have c70 : ab_b (Int32.ofNat (561 / 8)) = 2147483718 := by decide
    obtain ⟨zw, hzw, w1, w2⟩ : ∃ z : Int32, ab_sl h (ρ 640) 19 = some (.int z) ∧ 2147483648 ≤ ab_b z ∧ ab_b z ≤ 2147483648 := by
      obtain ⟨-, -, x, hx, z, rfl, z1, z2⟩ := hF _ List.mem_cons_self
      exact ⟨z, hx, z1, z2⟩
    obtain ⟨zp, hzp, p1, p2⟩ : ∃ z : Int32, ab_sl h (ρ 640) 7 = some (.int z) ∧ 2147483649 ≤ ab_b z ∧ ab_b z ≤ 2147483708 := by
      obtain ⟨-, -, x, hx, z, rfl, z1, z2⟩ := hF _ (List.mem_cons_of_mem _ List.mem_cons_self)
      exact ⟨z, hx, z1, z2⟩
    rw [hx] at hzw hzp
    have hmb : Nat.beq mc 0 = false := by
      cases hb : Nat.beq mc 0 with
      | false => rfl
      | true => exact absurd (ab_beq hb) hmc0
    have hG7 : w_G mc 40 7 = [w_r 0 60] := by
      show (bif Nat.beq mc 0 then [w_e 0] else [w_r 0 60]) = _
      rw [hmb]
      rfl
    have hP0 : cl_H mc τ tv wr h h 0 := cl_0 hI
    show cl_Rn am_m84 (0, [some (.ref (ρ 640)), none, none], [], h, 0, 0) _
    rw [hx]
    refine rs_st (cmp := am_cmp) wk_q84 (show wk_at wk_m84 0 3 0 1 0 0 = true by decide +kernel) rfl ?_
    refine rs_st (cmp := am_cmp) wk_q84 (show wk_at wk_m84 1 1 1 1 0 0 = true by decide +kernel) rfl ?_
    refine rs_st (cmp := am_cmp) wk_q84 (show wk_at wk_m84 2 1 561 2 0 0 = true by decide +kernel) rfl ?_
    refine rs_iv (as := [.int (Int32.ofNat (1 / 8)), .int (Int32.ofNat (561 / 8))]) (r := []) wk_q84 (show wk_at wk_m84 4 40 86 2 2 9 = true by decide +kernel) hP0.1 hu0 hk40 rfl rfl (Nat.le_of_ble_eq_true rfl) (mj := am_m86) rfl ⟨by decide, by decide, Nat.le_of_ble_eq_true rfl⟩ ?_
    refine rs_cv (as := [.ref (u 40), .int (Int32.ofNat (1 / 8)), .int (Int32.ofNat (561 / 8))]) (ρ := kc_rho u 0) hVc rfl kc_rho_ad hP0.1 hK ⟨Or.inr ⟨rfl, hu, by decide⟩, Or.inr (ab_g_0.mpr ⟨_, rfl, by rw [c0]; decide, by rw [c0]; decide⟩), Or.inr (ab_g_0.mpr ⟨_, rfl, by rw [c70]; decide, by rw [c70]; decide⟩), trivial⟩ (fun f hf => by cases hf) (by intro e he; have := List.mem_singleton.mp he; subst this; decide) rfl (fun v g1 k' q' hPo => ⟨v, g1, k', q', rfl, ?_⟩)
    obtain ⟨e, he, hend0, hH, -⟩ := hPo
    have := List.mem_singleton.mp he
    subst this
    rcases hend0 with ⟨-, hv⟩ | ⟨h1, -⟩ | ⟨h1, -⟩
    rotate_left
    · cases h1
    · cases h1
    have hv : v = none := Sum.inl.inj hv
    subst hv
    have hP1 := rs_tr (wr := wr) hl hP0 hH
    obtain ⟨-, hK1, hFr1, -, hp0, hp1, hk', hq'⟩ := hH
    obtain rfl : k' = 0 := Nat.le_zero.mp hk'
    obtain rfl : q' = 0 := Nat.le_zero.mp hq'
    have o1 : ∀ i, i < 64 → ab_sl g1 (u 40) i = ab_sl h (u 40) i := fun i hi => (hFr1 (u 40) (ab_typed hP0.1 hu0)).2 hu0 i (by rw [hu]; exact md_cw40 i hi)
    have hp0 : km_F u g1 + 1000 ≤ km_F u h + 1000 := hp0
    have hp1 : km_Q u g1 + 1000 ≤ km_Q u h + 1000 := hp1
    refine rs_st (cmp := am_cmp) wk_q84 (show wk_at wk_m84 7 3 0 1 0 0 = true by decide +kernel) rfl ?_
    refine rs_st (cmp := am_cmp) wk_q84 (show wk_at wk_m84 8 18 0 0 0 0 = true by decide +kernel) rfl ?_
    refine md_get hut wk_q84 (show wk_at wk_m84 9 25 9 7 0 0 = true by decide +kernel) hP1.1 (v := .int zp) (by rw [o1 7 (by decide)]; exact hzp) ?_
    refine rs_st (cmp := am_cmp) wk_q84 (show wk_at wk_m84 12 1 9 1 0 0 = true by decide +kernel) rfl ?_
    refine rs_st (cmp := am_cmp) wk_q84 (show wk_at wk_m84 13 8 0 0 0 0 = true by decide +kernel) rfl ?_
    have hsub := ab_b_sub (x := zp) (y := Int32.ofNat (9 / 8)) (by omega) (by omega)
    refine md_put hut wk_q84 (show wk_at wk_m84 14 26 9 7 0 0 = true by decide +kernel) hP1 (by decide) hw7 (by rw [hG7]; exact ⟨_, List.mem_singleton_self _, _, rfl, by show 2147483648 ≤ _; omega, by show _ ≤ 2147483708; omega⟩) (fun h2 hP2 e2 => ?_)
    have x2 : ∀ k i, w_uq k = true → k ≠ 40 → ab_sl h2 (u k) i = ab_sl g1 (u k) i := fun k i hk hk4 => by rw [e2, if_neg (fun z => hud k 40 hk (by decide +kernel) hk4 z.1)]
    have y19 : ab_sl h2 (u 40) 19 = ab_sl g1 (u 40) 19 := by rw [e2, if_neg (by omega)]
    have y7 : ab_sl h2 (u 40) 7 = some (.int (zp - Int32.ofNat (9 / 8))) := by rw [e2, if_pos ⟨rfl, rfl⟩]
    have hK2 : km_K u mc h2 := km_same (fun k hk i => by simp only [List.mem_cons, List.not_mem_nil, or_false] at hk; rcases hk with rfl | rfl | rfl | rfl | rfl | rfl | rfl | rfl | rfl <;> exact x2 _ i (by decide +kernel) (by decide)) y19 hK1
    have hF2 : km_F u h2 = km_F u g1 := by
      unfold km_F km_n
      rw [md_v_eq y19, km_sum_eq (f := fun i => km_w (md_v h2 (u 54) i) (md_v h2 (u 56) i)) (g := fun i => km_w (md_v g1 (u 54) i) (md_v g1 (u 56) i)) (fun i _ => by rw [md_v_eq (x2 54 i (by decide +kernel) (by decide)), md_v_eq (x2 56 i (by decide +kernel) (by decide))]), km_sum_eq (f := fun m => md_v h2 (u 64) m - 2147483648) (g := fun m => md_v g1 (u 64) m - 2147483648) (fun m _ => by rw [md_v_eq (x2 64 m (by decide +kernel) (by decide))])]
    have hq2 : km_Q u h2 ≤ km_Q u g1 + 1 := by
      unfold km_Q
      rw [md_v_int y7, md_v_int (show ab_sl g1 (u 40) 7 = some (.int zp) by rw [o1 7 (by decide)]; exact hzp)]
      omega
    refine rs_st (cmp := am_cmp) wk_q84 (show wk_at wk_m84 17 1 1 1 0 0 = true by decide +kernel) rfl ?_
    refine rs_st (cmp := am_cmp) wk_q84 (show wk_at wk_m84 18 4 1 1 0 0 = true by decide +kernel) rfl ?_
    obtain ⟨p, hpp⟩ : ∃ n, ab_b (zp - Int32.ofNat (9 / 8)) = 2147483648 + n := ⟨ab_b zp - 2147483649, by omega⟩
    refine md_arr_loop hU hut hVc hl (F0 := km_F u h) (Q0 := km_Q u h + 1) hpp (by omega) (zw := zw) (fun zi hx hPx hKx hFx hqx hwx => ?_) p 0 (Int32.ofNat (1 / 8)) h2 (by omega) c0 hP2 hK2 (by omega) (by omega) (by rw [y19, o1 19 (by decide)]; exact hzw) y7
    refine Rn_mono (md_tail hmc0 hmc htv hU hut hPx.1 hKx hwx (by omega)) (fun r hr => ?_)
    obtain ⟨rv, h', k', q'⟩ := r
    obtain ⟨e, he, hend0, hH, hfb⟩ := hr
    have := List.mem_singleton.mp he
    subst this
    have hPf := rs_tr (wr := wr) hlt hPx hH
    obtain ⟨-, hKf, -, -, hp2, hp3, hk', hq'⟩ := hH
    obtain rfl : k' = 0 := Nat.le_zero.mp hk'
    obtain rfl : q' = 0 := Nat.le_zero.mp hq'
    have hp2 : km_F u h' + 1000 ≤ km_F u hx + 1100 := hp2
    have hp3 : km_Q u h' + 1000 ≤ km_Q u hx + 1000 := hp3
    refine ⟨_, List.mem_singleton_self _, hend0, ⟨hPf.1, hKf, hPf.2.1, hPf.2.2, ?_, ?_, Nat.le_refl _, Nat.le_refl _⟩, hfb⟩
    · show km_F u h' + 1000 ≤ km_F u h + 1100
      omega
    · show km_Q u h' + 1000 ≤ km_Q u h + 1001
      omega
  | [], hA => exact hA.elim
  | _ :: _ :: _, hA => exact hA.2.elim
