/-! ===== the reference: a question to all finds one machine at most ===== -/
theorem md_s (x y : Nat) : Nat.sub x y = x - y := rfl
def md_ga2 (mc : Nat) : ab_C := ([(1, 640, 0), w_r 0 3, w_e 2, w_mm mc, w_r 0 7, ab_top], [(640, 19, w_r 0 7)], [(0, (3, 0, 0), [(640, 19, w_r 0 8)])], 0x80000000000000008000000000000000800000000000000080000000000000008000000000000000000000000000000000000000000000000000000000000000000000000000000000000000000000000000000000000000000000000000000000000000000000000000000000000000000000000000000000000000000000000000000000000000000000000000000000000000000800000000000000000000000000000000000000000000000000000000000000000000000000000000000000000000000000000000000000000000000000000000000000000000000000000000000000000000000000000000000000000000000000000000000000000000000000000000000000000000000000000000000000000000000000000000000000000000000000000000000000000000000000000000000000000000000000000000000000000000000000000000000000000000000000000000000000000000000000000000000000000000000000000000000000000000000000000000000000000000000000000000000000000000000000000000000000000000000000000000000000000000000000000000000000000000000000000000000000000000000000000000000000000000000000000000000000000000, (1003, 1000, 0, 0))
/-- what stands before the machine of number n -/
def md_gi (u : Nat → Nat) (h hm : am_H) (ns na n : Nat) : Prop := (∀ k, k ∈ [59, 60, 61] → ∀ i, ab_sl hm (u k) i = ab_sl h (u k) i) ∧ km_Q u hm ≤ km_Q u h ∧ ∃ z : Int32, ab_sl hm (u 40) 19 = some (.int z) ∧ 2147483648 ≤ ab_b z ∧ ((km_F u hm ≤ km_F u h ∧ ab_b z ≤ 2147483655) ∨ (km_F u hm ≤ km_F u h + 3 ∧ ab_b z ≤ 2147483656 ∧ ∃ j, j < n ∧ md_v h (u 59) j = md_v h (u 59) ns ∧ md_v h (u 60) j = na))
theorem md_gi_mono {u : Nat → Nat} {h hm : am_H} {ns na n n' : Nat} (hn : n ≤ n') (hg : md_gi u h hm ns na n) : md_gi u h hm ns na n' := by
  obtain ⟨g1, g2, z, g3, g4, g5⟩ := hg
  refine ⟨g1, g2, z, g3, g4, ?_⟩
  rcases g5 with g | ⟨g6, g7, j, g8, g9⟩
  · exact Or.inl g
  · exact Or.inr ⟨g6, g7, j, by omega, g9⟩
set_option maxRecDepth 100000 in
theorem md_ga2_loop {mc : Nat} {τ u : Nat → Nat} {tv : Nat} (hU : ab_U w_uq τ u) (hut : ∀ k, w_uq k = true → τ (u k) = k) (hmc8 : mc ≤ 8) (hVs : md_Vd mc τ u tv 120 (md_say (w_e 3) (w_mm mc) (w_r 0 7) (w_mm mc) mc 7 3)) {h : am_H} (hK : km_K u mc h) {zl zs za zb : Int32} {ns : Nat} (s1 : 2147483648 ≤ ab_b zs) (hns : ab_b zs - 2147483648 = ns) (s2 : ns < 8) (s3 : ab_b zs ≤ 2147483648 + (mc - 1)) (a1 : 2147483648 ≤ ab_b za) (a2 : ab_b za ≤ 2147483655) {Q : am_R → Prop} (hQ : ∀ hm, cl_H mc τ tv 0x80000000000000008000000000000000800000000000000080000000000000008000000000000000000000000000000000000000000000000000000000000000000000000000000000000000000000000000000000000000000000000000000000000000000000000000000000000000000000000000000000000000000000000000000000000000000000000000000000000000000800000000000000000000000000000000000000000000000000000000000000000000000000000000000000000000000000000000000000000000000000000000000000000000000000000000000000000000000000000000000000000000000000000000000000000000000000000000000000000000000000000000000000000000000000000000000000000000000000000000000000000000000000000000000000000000000000000000000000000000000000000000000000000000000000000000000000000000000000000000000000000000000000000000000000000000000000000000000000000000000000000000000000000000000000000000000000000000000000000000000000000000000000000000000000000000000000000000000000000000000000000000000000000000000000000000000000000000 h hm 0 → km_K u mc hm → md_gi u h hm ns (ab_b za) mc → Q (.inl none, hm, 0, 0)) : ∀ (d n : Nat) (zi : Int32) (hm : am_H), d + n = mc → ab_b zi = 2147483648 + n → cl_H mc τ tv 0x80000000000000008000000000000000800000000000000080000000000000008000000000000000000000000000000000000000000000000000000000000000000000000000000000000000000000000000000000000000000000000000000000000000000000000000000000000000000000000000000000000000000000000000000000000000000000000000000000000000000800000000000000000000000000000000000000000000000000000000000000000000000000000000000000000000000000000000000000000000000000000000000000000000000000000000000000000000000000000000000000000000000000000000000000000000000000000000000000000000000000000000000000000000000000000000000000000000000000000000000000000000000000000000000000000000000000000000000000000000000000000000000000000000000000000000000000000000000000000000000000000000000000000000000000000000000000000000000000000000000000000000000000000000000000000000000000000000000000000000000000000000000000000000000000000000000000000000000000000000000000000000000000000000000000000000000000000000 h hm 0 → km_K u mc hm → md_gi u h hm ns (ab_b za) n → cl_Rn am_m95 (3, [some (.ref (u 40)), some (.int zl), some (.int 2), some (.int zs), some (.int za), some (.int zb), some (.int zi)], [], hm, 0, 0) Q := by
  have hu : τ (u 40) = 40 := hut 40 (by decide +kernel)
  have hu0 : τ (u 40) ≠ 0 := by rw [hu]; decide
  have hk40 : (w_kd (τ (u 40))).1 = 9 := by rw [hu]; rfl
  have c1 : ab_b (Int32.ofNat 1) = 2147483649 := by decide
  have gt : ∀ z : Int32, ab_gc τ tv ab_top (.int z) := fun z => ⟨z, rfl, Nat.zero_le _, Nat.le_of_lt_succ (ab_b_lt z)⟩
  intro d
  induction d with
  | zero =>
    intro n zi hm hd hzi hP hKm hg
    obtain ⟨zc, hzc, z1, z2⟩ := md_fld hut hP.1 (i := 25) (by decide) (lo := Nat.add 2147483648 mc) (hi := Nat.add 2147483648 mc) rfl
    rw [md_a] at z1 z2
    refine rs_st (cmp := am_cmp) wk_q95 (show wk_at wk_m95 3 2 6 2 0 0 = true by decide +kernel) rfl ?_
    refine rs_st (cmp := am_cmp) wk_q95 (show wk_at wk_m95 5 3 0 1 0 0 = true by decide +kernel) rfl ?_
    refine md_get hut wk_q95 (show wk_at wk_m95 6 25 9 25 0 0 = true by decide +kernel) hP.1 (v := .int zc) hzc ?_
    refine rs_ict wk_q95 (show wk_at wk_m95 9 23 3 63 0 0 = true by decide +kernel) (by show decide (zc ≤ zi) = true; exact decide_eq_true (ab_b_lei.mpr (by omega))) ?_
    have : n = mc := by omega
    subst this
    exact rs_en (cmp := am_cmp) wk_q95 (show wk_at wk_m95 63 46 0 0 0 0 = true by decide +kernel) rfl (hQ hm hP hKm hg)
  | succ d ih =>
    intro n zi hm hd hzi hP hKm hg
    obtain ⟨zc, hzc, z1, z2⟩ := md_fld hut hP.1 (i := 25) (by decide) (lo := Nat.add 2147483648 mc) (hi := Nat.add 2147483648 mc) rfl
    rw [md_a] at z1 z2
    have i1 : 2147483648 ≤ ab_b zi := by omega
    have hni : ab_b zi - 2147483648 = n := by rw [hzi]; exact Nat.add_sub_cancel_left ..
    have i8 : n < 8 := by omega
    have hinc := ab_b_add (x := zi) (y := Int32.ofNat 1) (by omega) (by omega)
    have hnext : ∀ hx, cl_H mc τ tv 0x80000000000000008000000000000000800000000000000080000000000000008000000000000000000000000000000000000000000000000000000000000000000000000000000000000000000000000000000000000000000000000000000000000000000000000000000000000000000000000000000000000000000000000000000000000000000000000000000000000000000800000000000000000000000000000000000000000000000000000000000000000000000000000000000000000000000000000000000000000000000000000000000000000000000000000000000000000000000000000000000000000000000000000000000000000000000000000000000000000000000000000000000000000000000000000000000000000000000000000000000000000000000000000000000000000000000000000000000000000000000000000000000000000000000000000000000000000000000000000000000000000000000000000000000000000000000000000000000000000000000000000000000000000000000000000000000000000000000000000000000000000000000000000000000000000000000000000000000000000000000000000000000000000000000000000000000000000000 h hx 0 → km_K u mc hx → md_gi u h hx ns (ab_b za) (n + 1) → cl_Rn am_m95 (57, [some (.ref (u 40)), some (.int zl), some (.int 2), some (.int zs), some (.int za), some (.int zb), some (.int zi)], [], hx, 0, 0) Q := fun hx hPx hKx hgx => by
      refine rs_st (cmp := am_cmp) wk_q95 (show wk_at wk_m95 57 6 6 1 0 0 = true by decide +kernel) rfl ?_
      refine rs_st (cmp := am_cmp) wk_q95 (show wk_at wk_m95 60 21 3 0 0 0 = true by decide +kernel) rfl ?_
      exact ih (n + 1) (zi + Int32.ofNat 1) hx (by omega) (by omega) hPx hKx hgx
    have hskip := hnext hm hP hKm (md_gi_mono (Nat.le_succ n) hg)
    refine rs_st (cmp := am_cmp) wk_q95 (show wk_at wk_m95 3 2 6 2 0 0 = true by decide +kernel) rfl ?_
    refine rs_st (cmp := am_cmp) wk_q95 (show wk_at wk_m95 5 3 0 1 0 0 = true by decide +kernel) rfl ?_
    refine md_get hut wk_q95 (show wk_at wk_m95 6 25 9 25 0 0 = true by decide +kernel) hP.1 (v := .int zc) hzc ?_
    refine rs_icf wk_q95 (show wk_at wk_m95 9 23 3 63 0 0 = true by decide +kernel) (by show decide (zc ≤ zi) = false; exact decide_eq_false (fun hle => by have := ab_b_lei.mp hle; omega)) ?_
    obtain ⟨zt, hzt, -⟩ := md_int hut hP.1 (k := 61) (i := n) (by decide +kernel) (by decide) (by decide +kernel) (by exact i8) rfl
    obtain ⟨zn, hzn, -⟩ := md_int hut hP.1 (k := 59) (i := n) (by decide +kernel) (by decide) (by decide +kernel) (by exact i8) rfl
    obtain ⟨zo, hzo, -⟩ := md_int hut hP.1 (k := 59) (i := ns) (by decide +kernel) (by decide) (by decide +kernel) (by exact s2) rfl
    obtain ⟨zq, hzq, -⟩ := md_int hut hP.1 (k := 60) (i := n) (by decide +kernel) (by decide) (by decide +kernel) (by exact i8) rfl
    refine rs_st (cmp := am_cmp) wk_q95 (show wk_at wk_m95 12 3 0 1 0 0 = true by decide +kernel) rfl ?_
    refine md_get hut wk_q95 (show wk_at wk_m95 13 25 9 28 0 0 = true by decide +kernel) hP.1 (v := .ref (u 61)) (md_row hU hut hP.1 (i := 28) (k := 61) (by decide) rfl (by decide +kernel)) ?_
    refine rs_st (cmp := am_cmp) wk_q95 (show wk_at wk_m95 16 2 6 2 0 0 = true by decide +kernel) rfl ?_
    refine md_ial hut wk_q95 (show wk_at wk_m95 18 27 0 0 0 0 = true by decide +kernel) hP.1 (k := 61) (by decide +kernel) (by decide) rfl i1 hni (v := zt) hzt ?_
    refine rs_st (cmp := am_cmp) wk_q95 (show wk_at wk_m95 19 2 1 1 0 0 = true by decide +kernel) rfl ?_
    cases hc1 : wk_c 1 zt zl with
    | true => exact rs_ict wk_q95 (show wk_at wk_m95 20 23 1 57 0 0 = true by decide +kernel) hc1 hskip
    | false =>
      refine rs_icf wk_q95 (show wk_at wk_m95 20 23 1 57 0 0 = true by decide +kernel) hc1 ?_
      refine rs_st (cmp := am_cmp) wk_q95 (show wk_at wk_m95 23 3 0 1 0 0 = true by decide +kernel) rfl ?_
      refine md_get hut wk_q95 (show wk_at wk_m95 24 25 9 26 0 0 = true by decide +kernel) hP.1 (v := .ref (u 59)) (md_row hU hut hP.1 (i := 26) (k := 59) (by decide) rfl (by decide +kernel)) ?_
      refine rs_st (cmp := am_cmp) wk_q95 (show wk_at wk_m95 27 2 6 2 0 0 = true by decide +kernel) rfl ?_
      refine md_ial hut wk_q95 (show wk_at wk_m95 29 27 0 0 0 0 = true by decide +kernel) hP.1 (k := 59) (by decide +kernel) (by decide) rfl i1 hni (v := zn) hzn ?_
      refine rs_st (cmp := am_cmp) wk_q95 (show wk_at wk_m95 30 3 0 1 0 0 = true by decide +kernel) rfl ?_
      refine md_get hut wk_q95 (show wk_at wk_m95 31 25 9 26 0 0 = true by decide +kernel) hP.1 (v := .ref (u 59)) (md_row hU hut hP.1 (i := 26) (k := 59) (by decide) rfl (by decide +kernel)) ?_
      refine rs_st (cmp := am_cmp) wk_q95 (show wk_at wk_m95 34 2 3 1 0 0 = true by decide +kernel) rfl ?_
      refine md_ial hut wk_q95 (show wk_at wk_m95 35 27 0 0 0 0 = true by decide +kernel) hP.1 (k := 59) (by decide +kernel) (by decide) rfl s1 hns (v := zo) hzo ?_
      cases hc2 : wk_c 1 zn zo with
      | true => exact rs_ict wk_q95 (show wk_at wk_m95 36 23 1 57 0 0 = true by decide +kernel) hc2 hskip
      | false =>
        have hno : zn = zo := by
          have hc2 : (!decide (zn = zo)) = false := hc2
          simpa using hc2
        refine rs_icf wk_q95 (show wk_at wk_m95 36 23 1 57 0 0 = true by decide +kernel) hc2 ?_
        refine rs_st (cmp := am_cmp) wk_q95 (show wk_at wk_m95 39 2 6 2 0 0 = true by decide +kernel) rfl ?_
        refine rs_st (cmp := am_cmp) wk_q95 (show wk_at wk_m95 41 2 3 1 0 0 = true by decide +kernel) rfl ?_
        cases hc3 : wk_c 0 zi zs with
        | true => exact rs_ict wk_q95 (show wk_at wk_m95 42 23 0 57 0 0 = true by decide +kernel) hc3 hskip
        | false =>
          refine rs_icf wk_q95 (show wk_at wk_m95 42 23 0 57 0 0 = true by decide +kernel) hc3 ?_
          refine rs_st (cmp := am_cmp) wk_q95 (show wk_at wk_m95 45 3 0 1 0 0 = true by decide +kernel) rfl ?_
          refine rs_st (cmp := am_cmp) wk_q95 (show wk_at wk_m95 46 2 6 2 0 0 = true by decide +kernel) rfl ?_
          refine rs_st (cmp := am_cmp) wk_q95 (show wk_at wk_m95 48 2 2 1 0 0 = true by decide +kernel) rfl ?_
          refine rs_st (cmp := am_cmp) wk_q95 (show wk_at wk_m95 49 2 3 1 0 0 = true by decide +kernel) rfl ?_
          refine rs_st (cmp := am_cmp) wk_q95 (show wk_at wk_m95 50 2 4 2 0 0 = true by decide +kernel) rfl ?_
          refine rs_st (cmp := am_cmp) wk_q95 (show wk_at wk_m95 52 2 5 2 0 0 = true by decide +kernel) rfl ?_
          refine rs_iv (as := [.int zi, .int 2, .int zs, .int za, .int zb]) (r := []) wk_q95 (show wk_at wk_m95 54 40 94 5 2 9 = true by decide +kernel) hP.1 hu0 hk40 rfl rfl (Nat.le_of_ble_eq_true rfl) (mj := am_m94) rfl ⟨by decide, by decide, Nat.le_of_ble_eq_true rfl⟩ ?_
          show cl_Rn am_m94 (0, [some (.ref (u 40)), some (.int zi), some (.int 2), some (.int zs), some (.int za), some (.int zb)], [], hm, 0, 0) _
          refine rs_st (cmp := am_cmp) wk_q94 (show wk_at wk_m94 0 2 2 1 0 0 = true by decide +kernel) rfl ?_
          refine rs_ift wk_q94 (show wk_at wk_m94 1 22 1 80 0 0 = true by decide +kernel) (by decide) ?_
          refine rs_st (cmp := am_cmp) wk_q94 (show wk_at wk_m94 80 2 2 1 0 0 = true by decide +kernel) rfl ?_
          refine rs_st (cmp := am_cmp) wk_q94 (show wk_at wk_m94 81 1 9 1 0 0 = true by decide +kernel) rfl ?_
          refine rs_ict wk_q94 (show wk_at wk_m94 82 23 1 130 0 0 = true by decide +kernel) (by decide) ?_
          refine rs_st (cmp := am_cmp) wk_q94 (show wk_at wk_m94 130 2 2 1 0 0 = true by decide +kernel) rfl ?_
          refine rs_st (cmp := am_cmp) wk_q94 (show wk_at wk_m94 131 1 17 1 0 0 = true by decide +kernel) rfl ?_
          refine rs_icf wk_q94 (show wk_at wk_m94 132 23 1 159 0 0 = true by decide +kernel) (by decide) ?_
          refine rs_st (cmp := am_cmp) wk_q94 (show wk_at wk_m94 135 2 4 2 0 0 = true by decide +kernel) rfl ?_
          refine rs_st (cmp := am_cmp) wk_q94 (show wk_at wk_m94 137 3 0 1 0 0 = true by decide +kernel) rfl ?_
          refine md_get hut wk_q94 (show wk_at wk_m94 138 25 9 27 0 0 = true by decide +kernel) hP.1 (v := .ref (u 60)) (md_row hU hut hP.1 (i := 27) (k := 60) (by decide) rfl (by decide +kernel)) ?_
          refine rs_st (cmp := am_cmp) wk_q94 (show wk_at wk_m94 141 2 1 1 0 0 = true by decide +kernel) rfl ?_
          refine md_ial hut wk_q94 (show wk_at wk_m94 142 27 0 0 0 0 = true by decide +kernel) hP.1 (k := 60) (by decide +kernel) (by decide) rfl i1 hni (v := zq) hzq ?_
          cases hc4 : wk_c 1 za zq with
          | true =>
            refine rs_ict wk_q94 (show wk_at wk_m94 143 23 1 200 0 0 = true by decide +kernel) hc4 ?_
            exact rs_en (cmp := am_cmp) wk_q94 (show wk_at wk_m94 200 46 0 0 0 0 = true by decide +kernel) (r := (.inl none, hm, 0, 0)) rfl ⟨_, _, _, _, rfl, hskip⟩
          | false =>
            have haq : za = zq := by
              have hc4 : (!decide (za = zq)) = false := hc4
              simpa using hc4
            refine rs_icf wk_q94 (show wk_at wk_m94 143 23 1 200 0 0 = true by decide +kernel) hc4 ?_
            refine rs_st (cmp := am_cmp) wk_q94 (show wk_at wk_m94 146 3 0 1 0 0 = true by decide +kernel) rfl ?_
            refine rs_st (cmp := am_cmp) wk_q94 (show wk_at wk_m94 147 1 25 1 0 0 = true by decide +kernel) rfl ?_
            refine rs_st (cmp := am_cmp) wk_q94 (show wk_at wk_m94 148 2 1 1 0 0 = true by decide +kernel) rfl ?_
            refine rs_st (cmp := am_cmp) wk_q94 (show wk_at wk_m94 149 2 3 1 0 0 = true by decide +kernel) rfl ?_
            refine rs_st (cmp := am_cmp) wk_q94 (show wk_at wk_m94 150 2 4 2 0 0 = true by decide +kernel) rfl ?_
            refine rs_st (cmp := am_cmp) wk_q94 (show wk_at wk_m94 152 2 1 1 0 0 = true by decide +kernel) rfl ?_
            refine rs_iv (as := [.int (Int32.ofNat (25 / 8)), .int zi, .int zs, .int za, .int zi]) (r := []) wk_q94 (show wk_at wk_m94 153 40 120 5 2 9 = true by decide +kernel) hP.1 hu0 hk40 rfl rfl (Nat.le_of_ble_eq_true rfl) (mj := am_m120) rfl ⟨by decide, by decide, Nat.le_of_ble_eq_true rfl⟩ ?_
            obtain ⟨g1, g2, zw, hzw, w1, hcase⟩ := hg
            have v59 : md_v h (u 59) n = md_v h (u 59) ns := by
              rw [← md_v_eq (g1 59 (by decide) n), ← md_v_eq (g1 59 (by decide) ns), md_v_int hzn, md_v_int hzo, hno]
            have v60 : md_v h (u 60) n = ab_b za := by
              rw [← md_v_eq (g1 60 (by decide) n), md_v_int hzq, haq]
            have hA : km_F u hm ≤ km_F u h ∧ ab_b zw ≤ 2147483655 := by
              rcases hcase with hA | ⟨-, -, j, hj, j1, j2⟩
              · exact hA
              · exact absurd ⟨by rw [j1, v59], by rw [j2, v60]⟩ (hK.2.2.1 j n hj (by omega))
            refine rs_cv (as := [.ref (u 40), .int (Int32.ofNat (25 / 8)), .int zi, .int zs, .int za, .int zi]) (ρ := kc_rho u 0) hVs rfl kc_rho_ad hP.1 hKm ⟨Or.inr ⟨rfl, hu, by decide⟩, Or.inr (ab_g_0.mpr ⟨_, rfl, by decide, by decide⟩), Or.inr (ab_g_0.mpr ⟨zi, rfl, i1, by rw [md_a, md_s]; omega⟩), Or.inr (ab_g_0.mpr ⟨zs, rfl, s1, by rw [md_a]; exact s3⟩), Or.inr (ab_g_0.mpr ⟨za, rfl, a1, a2⟩), Or.inr (ab_g_0.mpr ⟨zi, rfl, i1, by rw [md_a, md_s]; omega⟩), trivial⟩ (fun f hf => ?_) (by intro e he; have := List.mem_singleton.mp he; subst this; exact (by decide : (0 : Nat) ≠ 2)) rfl (fun v h' k' q' hPo => ?_)
            · have := List.mem_singleton.mp hf
              subst this
              exact md_fk hu hzw (lo := Nat.add 2147483648 0) (hi := Nat.add 2147483648 7) (by rw [md_a]; exact w1) (by rw [md_a]; exact hA.2)
            obtain ⟨e, he, hend0, hH, hfb⟩ := hPo
            have := List.mem_singleton.mp he
            subst this
            rcases hend0 with ⟨-, hv⟩ | ⟨h1, -⟩ | ⟨h1, -⟩
            rotate_left
            · exact absurd (show (0 : Nat) = 1 from h1) (by decide)
            · exact absurd (show (0 : Nat) = 2 from h1) (by decide)
            have hv : v = none := Sum.inl.inj hv
            subst hv
            have hPf := rs_tr (wr := 0x80000000000000008000000000000000800000000000000080000000000000008000000000000000000000000000000000000000000000000000000000000000000000000000000000000000000000000000000000000000000000000000000000000000000000000000000000000000000000000000000000000000000000000000000000000000000000000000000000000000000800000000000000000000000000000000000000000000000000000000000000000000000000000000000000000000000000000000000000000000000000000000000000000000000000000000000000000000000000000000000000000000000000000000000000000000000000000000000000000000000000000000000000000000000000000000000000000000000000000000000000000000000000000000000000000000000000000000000000000000000000000000000000000000000000000000000000000000000000000000000000000000000000000000000000000000000000000000000000000000000000000000000000000000000000000000000000000000000000000000000000000000000000000000000000000000000000000000000000000000000000000000000000000000000000000000000000000000) (by show Nat.beq (Nat.land 0x80000000000000008000000000000000800000000000000080000000000000008000000000000000000000000000000000000000000000000000000000000000000000000000000000000000000000000000000000000000000000000000000000000000000000000000000000000000000000000000000000000000000000000000000000000000000000000000000000000000000800000000000000000000000000000000000000000000000000000000000000000000000000000000000000000000000000000000000000000000000000000000000000000000000000000000000000000000000000000000000000000000000000000000000000000000000000000000000000000000000000000000000000000000000000000000000000000000000000000000000000000000000000000000000000000000000000000000000000000000000000000000000000000000000000000000000000000000000000000000000000000000000000000000000000000000000000000000000000000000000000000000000000000000000000000000000000000000000000000000000000000000000000000000000000000000000000000000000000000000000000000000000000000000000000000000000000000000 0x80000000000000008000000000000000800000000000000080000000000000008000000000000000000000000000000000000000000000000000000000000000000000000000000000000000000000000000000000000000000000000000000000000000000000000000000000000000000000000000000000000000000000000000000000000000000000000000000000000000000800000000000000000000000000000000000000000000000000000000000000000000000000000000000000000000000000000000000000000000000000000000000000000000000000000000000000000000000000000000000000000000000000000000000000000000000000000000000000000000000000000000000000000000000000000000000000000000000000000000000000000000000000000000000000000000000000000000000000000000000000000000000000000000000000000000000000000000000000000000000000000000000000000000000000000000000000000000000000000000000000000000000000000000000000000000000000000000000000000000000000000000000000000000000000000000000000000000000000000000000000000000000000000000000000000000000000000000) 0x80000000000000008000000000000000800000000000000080000000000000008000000000000000000000000000000000000000000000000000000000000000000000000000000000000000000000000000000000000000000000000000000000000000000000000000000000000000000000000000000000000000000000000000000000000000000000000000000000000000000800000000000000000000000000000000000000000000000000000000000000000000000000000000000000000000000000000000000000000000000000000000000000000000000000000000000000000000000000000000000000000000000000000000000000000000000000000000000000000000000000000000000000000000000000000000000000000000000000000000000000000000000000000000000000000000000000000000000000000000000000000000000000000000000000000000000000000000000000000000000000000000000000000000000000000000000000000000000000000000000000000000000000000000000000000000000000000000000000000000000000000000000000000000000000000000000000000000000000000000000000000000000000000000000000000000000000000000 = true; decide +kernel) hP hH
            obtain ⟨-, hKf, hFr, -, hp0, hp1, hk', hq'⟩ := hH
            obtain rfl : k' = 0 := Nat.le_zero.mp hk'
            obtain rfl : q' = 0 := Nat.le_zero.mp hq'
            have hp0 : km_F u h' + 1000 ≤ km_F u hm + (1000 + 3) := hp0
            have hp1 : km_Q u h' + 1000 ≤ km_Q u hm + 1000 := hp1
            obtain ⟨z, hy, y1, y2⟩ := md_fbd (h := h') (lo := Nat.add 2147483648 0) (hi := Nat.add 2147483648 (7 + 1)) (hfb _ (List.mem_singleton_self _))
            rw [md_a] at y1 y2
            have hrows : ∀ k, k ∈ [59, 60, 61] → ∀ i, ab_sl h' (u k) i = ab_sl h (u k) i := fun k hk i => by
              rw [← g1 k hk i]
              simp only [List.mem_cons, List.not_mem_nil, or_false] at hk
              rcases hk with rfl | rfl | rfl
              · have t := hut 59 (by decide +kernel)
                exact (hFr (u 59) (ab_typed hP.1 (by rw [t]; decide))).2 (by rw [t]; decide) i (by rw [t, ab_bt_arr (by decide)]; show ab_tb 0x80000000000000008000000000000000800000000000000080000000000000008000000000000000000000000000000000000000000000000000000000000000000000000000000000000000000000000000000000000000000000000000000000000000000000000000000000000000000000000000000000000000000000000000000000000000000000000000000000000000000800000000000000000000000000000000000000000000000000000000000000000000000000000000000000000000000000000000000000000000000000000000000000000000000000000000000000000000000000000000000000000000000000000000000000000000000000000000000000000000000000000000000000000000000000000000000000000000000000000000000000000000000000000000000000000000000000000000000000000000000000000000000000000000000000000000000000000000000000000000000000000000000000000000000000000000000000000000000000000000000000000000000000000000000000000000000000000000000000000000000000000000000000000000000000000000000000000000000000000000000000000000000000000000000000000000000000000000 (ab_bt w_kd 59 0) = false; decide +kernel)
              · have t := hut 60 (by decide +kernel)
                exact (hFr (u 60) (ab_typed hP.1 (by rw [t]; decide))).2 (by rw [t]; decide) i (by rw [t, ab_bt_arr (by decide)]; show ab_tb 0x80000000000000008000000000000000800000000000000080000000000000008000000000000000000000000000000000000000000000000000000000000000000000000000000000000000000000000000000000000000000000000000000000000000000000000000000000000000000000000000000000000000000000000000000000000000000000000000000000000000000800000000000000000000000000000000000000000000000000000000000000000000000000000000000000000000000000000000000000000000000000000000000000000000000000000000000000000000000000000000000000000000000000000000000000000000000000000000000000000000000000000000000000000000000000000000000000000000000000000000000000000000000000000000000000000000000000000000000000000000000000000000000000000000000000000000000000000000000000000000000000000000000000000000000000000000000000000000000000000000000000000000000000000000000000000000000000000000000000000000000000000000000000000000000000000000000000000000000000000000000000000000000000000000000000000000000000000000 (ab_bt w_kd 60 0) = false; decide +kernel)
              · have t := hut 61 (by decide +kernel)
                exact (hFr (u 61) (ab_typed hP.1 (by rw [t]; decide))).2 (by rw [t]; decide) i (by rw [t, ab_bt_arr (by decide)]; show ab_tb 0x80000000000000008000000000000000800000000000000080000000000000008000000000000000000000000000000000000000000000000000000000000000000000000000000000000000000000000000000000000000000000000000000000000000000000000000000000000000000000000000000000000000000000000000000000000000000000000000000000000000000800000000000000000000000000000000000000000000000000000000000000000000000000000000000000000000000000000000000000000000000000000000000000000000000000000000000000000000000000000000000000000000000000000000000000000000000000000000000000000000000000000000000000000000000000000000000000000000000000000000000000000000000000000000000000000000000000000000000000000000000000000000000000000000000000000000000000000000000000000000000000000000000000000000000000000000000000000000000000000000000000000000000000000000000000000000000000000000000000000000000000000000000000000000000000000000000000000000000000000000000000000000000000000000000000000000000000000000 (ab_bt w_kd 61 0) = false; decide +kernel)
            refine ⟨_, _, _, _, rfl, ?_⟩
            refine rs_st (cmp := am_cmp) wk_q94 (show wk_at wk_m94 156 21 200 0 0 0 = true by decide +kernel) rfl ?_
            refine rs_en (cmp := am_cmp) wk_q94 (show wk_at wk_m94 200 46 0 0 0 0 = true by decide +kernel) (r := (.inl none, h', 0, 0)) rfl ⟨_, _, _, _, rfl, ?_⟩
            exact hnext h' hPf hKf ⟨hrows, by omega, z, hy, y1, Or.inr ⟨by omega, y2, n, by omega, v59, v60⟩⟩
theorem md_ga2_ok {mc : Nat} {τ u : Nat → Nat} {tv : Nat} (hU : ab_U w_uq τ u) (hut : ∀ k, w_uq k = true → τ (u k) = k) (hmc8 : mc ≤ 8) (hVs : md_Vd mc τ u tv 120 (md_say (w_e 3) (w_mm mc) (w_r 0 7) (w_mm mc) mc 7 3)) : md_Vd mc τ u tv 95 (md_ga2 mc) := by
  intro mj hmj ρ h as had hI hK hA hF
  have hmj : am_m95 = mj := Option.some.inj hmj
  subst hmj
  match as, hA with
  | [v0, v1, v2, v3, v4, v5], hA =>
    obtain ⟨h0, h1, h2, h3, h4, h5, -⟩ := hA
    rcases h0 with h0 | ⟨rfl, x1, x2⟩
    · cases h0
    rcases h1 with h1 | ⟨zl, rfl, -, -⟩
    · cases h1
    rcases h2 with h2 | ⟨z2, rfl, e1, e2⟩
    · cases h2
    rcases h3 with h3 | ⟨zs, rfl, s1, s2⟩
    · cases h3
    rcases h4 with h4 | ⟨za, rfl, a1, a2⟩
    · cases h4
    rcases h5 with h5 | ⟨zb, rfl, -, -⟩
    · cases h5
    have hx : ρ 640 = u 40 := had 40 (by decide +kernel)
    have e1 : 2147483650 ≤ ab_b z2 := e1
    have e2 : ab_b z2 ≤ 2147483650 := e2
    have s1 : 2147483648 ≤ ab_b zs := s1
    have s2 : ab_b zs ≤ 2147483648 + (mc - 1) := s2
    obtain rfl : z2 = 2 := ab_b_inj (by
      have : ab_b z2 = 2147483650 := by omega
      rw [this]
      decide)
    obtain ⟨zw, hzw, w1, w2⟩ := kc_fact hF
    rw [hx] at hzw
    have hu : τ (u 40) = 40 := hut 40 (by decide +kernel)
    obtain ⟨ns, hns⟩ : ∃ n, ab_b zs - 2147483648 = n := ⟨_, rfl⟩
    show cl_Rn am_m95 (0, [some (.ref (ρ 640)), some (.int zl), some (.int 2), some (.int zs), some (.int za), some (.int zb), none], [], h, 0, 0) _
    rw [hx]
    refine rs_st (cmp := am_cmp) wk_q95 (show wk_at wk_m95 0 1 1 1 0 0 = true by decide +kernel) rfl ?_
    refine rs_st (cmp := am_cmp) wk_q95 (show wk_at wk_m95 1 4 6 2 0 0 = true by decide +kernel) rfl ?_
    refine md_ga2_loop hU hut hmc8 hVs hK s1 hns (by omega) s2 a1 a2 (fun hm hP hKm hg => ?_) mc 0 (Int32.ofNat (1 / 8)) h (by omega) (by decide) (cl_0 hI) hK ⟨fun _ _ _ => rfl, Nat.le_refl _, zw, hzw, w1, Or.inl ⟨Nat.le_refl _, w2⟩⟩
    obtain ⟨-, g2, z, hz, z1, hcase⟩ := hg
    have hb : km_F u hm ≤ km_F u h + 3 ∧ ab_b z ≤ 2147483656 := by
      rcases hcase with ⟨c1, c2⟩ | ⟨c1, c2, -⟩
      · exact ⟨by omega, by omega⟩
      · exact ⟨c1, c2⟩
    refine ⟨_, List.mem_singleton_self _, Or.inl ⟨rfl, rfl⟩, ⟨hP.1, hKm, hP.2.1, hP.2.2, ?_, ?_, Nat.le_refl _, Nat.le_refl _⟩, fun f hf => ?_⟩
    · show km_F u hm + 1000 ≤ km_F u h + 1003
      omega
    · show km_Q u hm + 1000 ≤ km_Q u h + 1000
      omega
    · have := List.mem_singleton.mp hf
      subst this
      exact md_fb hu hz z1 hb.2
  | [], hA => exact hA.elim
  | [_], hA => exact hA.2.elim
  | [_, _], hA => exact hA.2.2.elim
  | [_, _, _], hA => exact hA.2.2.2.elim
  | [_, _, _, _], hA => exact hA.2.2.2.2.elim
  | [_, _, _, _, _], hA => exact hA.2.2.2.2.2.elim
  | _ :: _ :: _ :: _ :: _ :: _ :: _ :: _, hA => exact hA.2.2.2.2.2.2.elim
