/-! ===== by hand: settle comes to its end ===== -/
def kc_first : ab_C := ([(1, 80, 0)], [], [(1, (2, 22, 0), [])], 0x0, w_g0)
def kc_hand (w : Nat) : ab_C := ([(1, 16, 0), (1, 353, 0)], [], [(0, (3, 0, 0), [])], w, w_g0)
def kc_sett (w : Nat) : ab_C := ([(1, 16, 0)], [], [(0, (3, 0, 0), [])], w, (1016, 1000, 0, 0))
/-- names for the arguments -/
def kc_rho (u : Nat → Nat) (f : Nat) : Nat → Nat := fun n => if n = 353 then f else u (n / 16)
theorem kc_rho_ad {u : Nat → Nat} {f : Nat} : ab_ad w_uq u (kc_rho u f) := fun k _ => by
  have h1 : 16 * k ≠ 353 := by omega
  have h2 : 16 * k / 16 = k := by omega
  unfold kc_rho
  rw [if_neg h1, h2]
theorem kc_P_le {u : Nat → Nat} {τ : Nat → Nat} {mc tv : Nat} (hmc : Nat.beq mc 0 = false) {h : am_H} (hI : ab_I w_kd w_un (w_G mc) τ tv h) (hx : τ (u 5) = 5) : ∃ z : Int32, ab_sl h (u 5) 2 = some (.int z) ∧ 2147483648 ≤ ab_b z ∧ ab_b z ≤ 2147483664 ∧ kc_P u h = 2147483664 - ab_b z := by
  obtain ⟨z, hz, z1, z2⟩ := kc_len hmc hI hx
  refine ⟨z, hz, z1, z2, ?_⟩
  unfold kc_P
  rw [hz]
set_option maxRecDepth 100000 in
theorem kc_sett_loop {mc : Nat} {τ u : Nat → Nat} {tv wh wr : Nat} (hmc : Nat.beq mc 0 = false) (hut : ∀ k, w_uq k = true → τ (u k) = k) (hU : ab_U w_uq τ u) (hl0 : Nat.beq (Nat.land 0 wr) 0 = true) (hl1 : Nat.beq (Nat.land wh wr) wh = true) (hl2 : Nat.beq (Nat.land kc_rmf.2.2.2.1 wr) kc_rmf.2.2.2.1 = true) (hV1 : cl_Vd mc τ u tv 46 kc_first) (hV2 : cl_Vd mc τ u tv 9 (kc_hand wh)) (hV3 : cl_Vd mc τ u tv 48 kc_rmf) {h0 : am_H} : ∀ (n : Nat) (zi : Int32) (h : am_H), 2147483648 ≤ ab_b zi → 2148483648 - ab_b zi ≤ n → cl_H mc τ tv wr h0 h 0 → kc_K τ mc h → cl_Rn am_m31 (2, [some (.ref (u 1)), some (.int zi)], [], h, 0, 0) (ab_Po w_kd w_un (w_G mc) τ u tv (kc_K τ mc) (kc_P u) (fun _ => 0) (kc_sett wr) h0) := by
  have hu1 : τ (u 1) = 1 := hut 1 (by decide +kernel)
  have hu5 : τ (u 5) = 5 := hut 5 (by decide +kernel)
  have h10 : τ (u 1) ≠ 0 := by rw [hu1]; decide
  have h50 : τ (u 5) ≠ 0 := by rw [hu5]; decide
  have hk1 : (w_kd (τ (u 1))).1 = 0 := by rw [hu1]; rfl
  have hk5 : (w_kd (τ (u 5))).1 = 4 := by rw [hu5]; rfl
  have cM : ab_b (Int32.ofNat (8000001 / 8)) = 2148483648 := by decide
  have c1 : ab_b (Int32.ofNat 1) = 2147483649 := by decide
  have hque : ∀ h, ab_I w_kd w_un (w_G mc) τ tv h → ab_sl h (u 1) 3 = some (.ref (u 5)) := fun h hI => by
    obtain ⟨y, hy, y1, -⟩ := kc_ref hI hu1 (by decide) (i := 3) (by decide) (κ' := 5) (b := 0) rfl
    have : y = u 5 := by
      have := hU y (by rw [y1]; decide +kernel)
      rw [y1] at this
      exact this
    rw [hy, this]
  have hdone : ∀ (zi : Int32) (h : am_H), cl_H mc τ tv wr h0 h 0 → kc_K τ mc h → cl_Rn am_m31 (43, [some (.ref (u 1)), some (.int zi)], [], h, 0, 0) (ab_Po w_kd w_un (w_G mc) τ u tv (kc_K τ mc) (kc_P u) (fun _ => 0) (kc_sett wr) h0) := fun zi h hP hK => by
    refine rs_en (cmp := am_cmp) wk_q31 (show wk_at wk_m31 43 46 0 0 0 0 = true by decide +kernel) rfl ⟨_, List.mem_singleton_self _, Or.inl ⟨rfl, rfl⟩, cl_Hp hP hK ?_ (Nat.le_refl _) (Nat.le_refl _) (Nat.le_refl _), fun f hf => by cases hf⟩
    obtain ⟨z, -, z1, z2, hz⟩ := kc_P_le hmc hP.1 hu5
    rw [hz]
    show 2147483664 - ab_b z + 1000 ≤ kc_P u h0 + 1016
    omega
  have hhead : ∀ (zi : Int32) (h : am_H), cl_H mc τ tv wr h0 h 0 → kc_K τ mc h → (¬ 2148483648 ≤ ab_b zi → cl_Rn am_m31 (9, [some (.ref (u 1)), some (.int zi)], [], h, 0, 0) (ab_Po w_kd w_un (w_G mc) τ u tv (kc_K τ mc) (kc_P u) (fun _ => 0) (kc_sett wr) h0)) → cl_Rn am_m31 (2, [some (.ref (u 1)), some (.int zi)], [], h, 0, 0) (ab_Po w_kd w_un (w_G mc) τ u tv (kc_K τ mc) (kc_P u) (fun _ => 0) (kc_sett wr) h0) := fun zi h hP hK hn => by
    refine rs_st (cmp := am_cmp) wk_q31 (show wk_at wk_m31 2 2 1 1 0 0 = true by decide +kernel) rfl ?_
    refine rs_st (cmp := am_cmp) wk_q31 (show wk_at wk_m31 3 1 8000001 3 0 0 = true by decide +kernel) rfl ?_
    cases hc : wk_c 3 zi (Int32.ofNat (8000001 / 8)) with
    | true => exact rs_ict wk_q31 (show wk_at wk_m31 6 23 3 43 0 0 = true by decide +kernel) hc (hdone zi h hP hK)
    | false =>
      refine rs_icf wk_q31 (show wk_at wk_m31 6 23 3 43 0 0 = true by decide +kernel) hc (hn (fun hle => ?_))
      have : Int32.ofNat (8000001 / 8) ≤ zi := ab_b_lei.mpr (by rw [cM]; exact hle)
      have hc : decide (Int32.ofNat (8000001 / 8) ≤ zi) = false := hc
      exact of_decide_eq_false hc this
  intro n
  induction n with
  | zero =>
    intro zi h z1 hn hP hK
    exact hhead zi h hP hK (fun hlt => absurd (by omega) hlt)
  | succ n ih =>
    intro zi h z1 hn hP hK
    refine hhead zi h hP hK (fun hlt => ?_)
    obtain ⟨zl, hzl, l1, l2, hPz⟩ := kc_P_le hmc hP.1 hu5
    refine rs_st (cmp := am_cmp) wk_q31 (show wk_at wk_m31 9 3 0 1 0 0 = true by decide +kernel) rfl ?_
    refine rs_get wk_q31 (show wk_at wk_m31 10 25 0 3 0 0 = true by decide +kernel) hP.1 h10 hk1 (v := .ref (u 5)) (hque h hP.1) ?_
    refine rs_get wk_q31 (show wk_at wk_m31 13 25 4 2 0 0 = true by decide +kernel) hP.1 h50 hk5 (v := .int zl) hzl ?_
    cases hc : wk_c 5 zl 0 with
    | true => exact rs_ift wk_q31 (show wk_at wk_m31 16 22 5 43 0 0 = true by decide +kernel) hc (hdone zi h hP hK)
    | false =>
      have hz0 : 2147483649 ≤ ab_b zl := by
        have hc : decide (zl ≤ 0) = false := hc
        have := of_decide_eq_false hc
        rw [ab_b_lei, ab_b_0] at this
        omega
      refine rs_iff wk_q31 (show wk_at wk_m31 16 22 5 43 0 0 = true by decide +kernel) hc ?_
      refine rs_st (cmp := am_cmp) wk_q31 (show wk_at wk_m31 19 3 0 1 0 0 = true by decide +kernel) rfl ?_
      refine rs_st (cmp := am_cmp) wk_q31 (show wk_at wk_m31 20 3 0 1 0 0 = true by decide +kernel) rfl ?_
      refine rs_get wk_q31 (show wk_at wk_m31 21 25 0 3 0 0 = true by decide +kernel) hP.1 h10 hk1 (v := .ref (u 5)) (hque h hP.1) ?_
      refine rs_iv (as := []) (r := [.ref (u 1)]) wk_q31 (show wk_at wk_m31 24 40 46 0 2 4 = true by decide +kernel) hP.1 h50 hk5 rfl rfl (Nat.le_of_ble_eq_true rfl) (mj := am_m46) rfl (by decide) ?_
      refine rs_cv (as := [.ref (u 5)]) (ρ := kc_rho u 0) hV1 rfl kc_rho_ad hP.1 hK ⟨Or.inr ⟨rfl, hu5, by decide⟩, trivial⟩ (fun f hf => by cases hf) (by decide) rfl (fun v h1 k1 q1 hPo => ⟨v, h1, k1, q1, rfl, ?_⟩)
      obtain ⟨e, he, hend, hH1, -⟩ := hPo
      have := List.mem_singleton.mp he
      subst this
      rcases hend with ⟨h1, -⟩ | ⟨-, y, hy, y0, rfl, y1, y2⟩ | ⟨h1, -⟩
      · cases h1
      rotate_left
      · cases h1
      have hy : v = some (.ref y0) := Sum.inl.inj hy
      subst hy
      have y1 : τ y0 = 22 := y1
      have hP1 := rs_tr hl0 hP hH1
      obtain ⟨z1I, hK1, -, -, hp1, -, hk1', hq1'⟩ := hH1
      obtain rfl : k1 = 0 := Nat.le_zero.mp hk1'
      obtain rfl : q1 = 0 := Nat.le_zero.mp hq1'
      refine rs_iv (as := [.ref y0]) (r := []) wk_q31 (show wk_at wk_m31 27 40 9 1 2 0 = true by decide +kernel) hP1.1 h10 hk1 rfl rfl (Nat.le_of_ble_eq_true rfl) (mj := am_m9) rfl ⟨by decide, by decide, Nat.le_of_ble_eq_true rfl⟩ ?_
      refine rs_cv (as := [.ref (u 1), .ref y0]) (ρ := kc_rho u y0) hV2 rfl kc_rho_ad hP1.1 hK1 ⟨Or.inr ⟨rfl, hu1, by decide⟩, Or.inr ⟨rfl, y1, by decide⟩, trivial⟩ (fun f hf => by cases hf) (by intro e he; have := List.mem_singleton.mp he; subst this; decide) rfl (fun v2 h2 k2 q2 hPo => ⟨v2, h2, k2, q2, rfl, ?_⟩)
      obtain ⟨e, he, hend, hH2, -⟩ := hPo
      have := List.mem_singleton.mp he
      subst this
      rcases hend with ⟨-, hv⟩ | ⟨h1, -⟩ | ⟨h1, -⟩
      rotate_left
      · cases h1
      · cases h1
      have hv : v2 = none := Sum.inl.inj hv
      subst hv
      have hP2 := rs_tr hl1 hP1 hH2
      obtain ⟨-, hK2, -, -, hp2, -, hk2', hq2'⟩ := hH2
      obtain rfl : k2 = 0 := Nat.le_zero.mp hk2'
      obtain rfl : q2 = 0 := Nat.le_zero.mp hq2'
      obtain ⟨zm, hzm, m1, m2, hPm⟩ := kc_P_le hmc hP2.1 hu5
      have hp1 : kc_P u h1 + 1000 ≤ kc_P u h + 1000 := hp1
      have hp2 : kc_P u h2 + 1000 ≤ kc_P u h1 + 1000 := hp2
      have hPm : kc_P u h2 = 2147483664 - ab_b zm := hPm
      have hm : 2147483649 ≤ ab_b zm := by omega
      refine rs_st (cmp := am_cmp) wk_q31 (show wk_at wk_m31 30 3 0 1 0 0 = true by decide +kernel) rfl ?_
      refine rs_get wk_q31 (show wk_at wk_m31 31 25 0 3 0 0 = true by decide +kernel) hP2.1 h10 hk1 (v := .ref (u 5)) (hque h2 hP2.1) ?_
      refine rs_iv (as := []) (r := []) wk_q31 (show wk_at wk_m31 34 40 48 0 2 4 = true by decide +kernel) hP2.1 h50 hk5 rfl rfl (Nat.le_of_ble_eq_true rfl) (mj := am_m48) rfl (by decide) ?_
      refine rs_cv (as := [.ref (u 5)]) (ρ := kc_rho u 0) hV3 rfl kc_rho_ad hP2.1 hK2 ⟨Or.inr ⟨rfl, hu5, by decide⟩, trivial⟩ (fun f hf => ?_) (by decide) rfl (fun v3 h3 k3 q3 hPo => ⟨v3, h3, k3, q3, rfl, ?_⟩)
      · have := List.mem_singleton.mp hf
        subst this
        exact ⟨hu5, by decide, _, hzm, zm, rfl, hm, m2⟩
      obtain ⟨e, he, hend, hH3, -⟩ := hPo
      have := List.mem_singleton.mp he
      subst this
      rcases hend with ⟨-, hv⟩ | ⟨h1, -⟩ | ⟨h1, -⟩
      rotate_left
      · cases h1
      · cases h1
      have hv : v3 = none := Sum.inl.inj hv
      subst hv
      have hP3 := rs_tr hl2 hP2 hH3
      obtain ⟨-, hK3, -, -, -, -, hk3', hq3'⟩ := hH3
      obtain rfl : k3 = 0 := Nat.le_zero.mp hk3'
      obtain rfl : q3 = 0 := Nat.le_zero.mp hq3'
      refine rs_st (cmp := am_cmp) wk_q31 (show wk_at wk_m31 37 6 1 1 0 0 = true by decide +kernel) rfl ?_
      refine rs_st (cmp := am_cmp) wk_q31 (show wk_at wk_m31 40 21 2 0 0 0 = true by decide +kernel) rfl ?_
      have hinc := ab_b_add (x := zi) (y := Int32.ofNat 1) (by omega) (by omega)
      exact ih (zi + Int32.ofNat 1) h3 (by omega) (by omega) hP3 hK3
theorem kc_sett_ok {mc : Nat} {τ u : Nat → Nat} {tv wh wr : Nat} (hmc : Nat.beq mc 0 = false) (hut : ∀ k, w_uq k = true → τ (u k) = k) (hU : ab_U w_uq τ u) (hl0 : Nat.beq (Nat.land 0 wr) 0 = true) (hl1 : Nat.beq (Nat.land wh wr) wh = true) (hl2 : Nat.beq (Nat.land kc_rmf.2.2.2.1 wr) kc_rmf.2.2.2.1 = true) (hV1 : cl_Vd mc τ u tv 46 kc_first) (hV2 : cl_Vd mc τ u tv 9 (kc_hand wh)) (hV3 : cl_Vd mc τ u tv 48 kc_rmf) : cl_Vd mc τ u tv 31 (kc_sett wr) := by
  intro mj hmj ρ h as had hI hK hA hF
  have hmj : am_m31 = mj := Option.some.inj hmj
  subst hmj
  match as, hA with
  | [v1], hA =>
    obtain ⟨e1 | ⟨rfl, x1, x2⟩, -⟩ := hA
    · cases e1
    have hx : ρ 16 = u 1 := had 1 (by decide +kernel)
    show cl_Rn am_m31 (0, [some (.ref (ρ 16)), none], [], h, 0, 0) _
    rw [hx]
    refine rs_st (cmp := am_cmp) wk_q31 (show wk_at wk_m31 0 1 1 1 0 0 = true by decide +kernel) rfl ?_
    refine rs_st (cmp := am_cmp) wk_q31 (show wk_at wk_m31 1 4 1 1 0 0 = true by decide +kernel) rfl ?_
    exact kc_sett_loop hmc hut hU hl0 hl1 hl2 hV1 hV2 hV3 1000000 (Int32.ofNat (1 / 8)) h (by decide) (by decide) (cl_0 hI) hK
  | [], hA => exact hA.elim
  | _ :: _ :: _, hA => exact hA.2.elim
