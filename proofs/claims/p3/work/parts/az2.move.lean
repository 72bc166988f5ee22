/-! ===== the class's move by hand ===== -/
def mm_F (t i : Nat) : Bool := Nat.beq t 5 && Nat.beq i 3
def mm_A (j : Nat) : Bool := !(Nat.beq j 20 || Nat.beq j 22 || Nat.beq j 49 || Nat.beq j 137 || Nat.beq j 138)
theorem mm_hF : ∀ t i, mm_F t i = true → t < 100 := by
  intro t i h
  have := Nat.eq_of_beq_eq_true (Bool.and_eq_true_iff.mp h).1
  omega
theorem mm_hB : ∀ t, (fun _ => false : Nat → Bool) t = true → t = 101 ∨ t = 102 := fun t h => by cases h
set_option maxRecDepth 100000 in
theorem mm_Ac : (List.range 147).all (fun j => !mm_A j || (match am_ms j with
    | some mj => fz_m mm_F (fun _ => false) mm_A 0 mj
    | none => true)) = true := by decide +kernel
theorem mm_len : am_msl.length = 147 := by decide +kernel
theorem mm_hA : ∀ j mj, mm_A j = true → am_ms j = some mj → fz_m mm_F (fun _ => false) mm_A 0 mj = true := by
  intro j mj h1 h2
  have hj : j < 147 := by
    have := (List.getElem?_eq_some_iff.mp (show am_msl[j]? = some mj from h2)).1
    rw [mm_len] at this
    exact this
  have := List.all_eq_true.mp mm_Ac j (List.mem_range.mpr hj)
  rw [h1, h2] at this
  exact this
theorem mm_run {j : Nat} {mj : am_M} (hj : am_ms j = some mj) (hA : mm_A j = true) {S : am_S} {r : am_R} (h : Rd mj S r) : fz_eq mm_F (fun _ => false) S.2.2.2.1 r.2.1 := by
  obtain ⟨f, e⟩ := h
  exact fz_run mm_hF mm_hB mm_hA f _ 0 mj S r (mm_hA j mj hA hj) (Nat.zero_le _) e
theorem nt_run {F : Nat → Nat → Bool} {bt : Nat → Bool} (hF : ∀ t i, F t i = true → t < 100) (hB : ∀ t, bt t = true → t = 101 ∨ t = 102) {A : Nat → Bool} {p0 : Nat} {mi : am_M} (hm : fz_m F bt A p0 mi = true) (hh : am_h mi = []) (hn : (am_c mi).all (fun x => Nat.blt x.1 p0 || (match x.2.1 with
    | .new _ => false
    | _ => true)) = true) : ∀ (f : Nat) (S : am_S) (r : am_R), p0 ≤ S.1 → am_run am_fty am_dfl am_cmp am_lk am_ms am_cx am_o0 f mi S = some r → ∃ v, r.1 = .inl v
  | 0, _, _, _, h => by cases h
  | f + 1, S, r, hp, h => by
    have hins : ∀ i n, am_ins (am_c mi) S.1 = some (i, n) → (fz_i F bt A p0 mi i = true ∧ (fz_ts S.1 i).all (fun t => decide ((p0 : Int) ≤ t)) = true) ∧ (match i with
      | .new _ => false
      | _ => true) = true := fun i n hi => by
      have a1 := List.all_eq_true.mp (Bool.and_eq_true_iff.mp hm).1 _ (am_ins_mem hi)
      have a2 := List.all_eq_true.mp hn _ (am_ins_mem hi)
      have nb : ¬ Nat.blt S.1 p0 = true := fun e => by
        have := Nat.le_of_ble_eq_true e
        exact absurd this (by show ¬ S.1 + 1 ≤ p0; omega)
      rcases Bool.or_eq_true_iff.mp a1 with e | e
      · exact absurd e nb
      · rcases Bool.or_eq_true_iff.mp a2 with e2 | e2
        · exact absurd e2 nb
        · exact ⟨Bool.and_eq_true_iff.mp e, e2⟩
    have stp : ∀ X, am_step am_fty am_dfl am_cmp am_lk am_o0 mi S = some X → ∃ i n, am_ins (am_c mi) S.1 = some (i, n) ∧ am_exec am_fty am_dfl am_cmp am_lk am_o0 mi i n S.1 S.2.1 S.2.2.1 S.2.2.2.1 S.2.2.2.2.1 S.2.2.2.2.2 = some X := fun X hX => by
      unfold am_step at hX
      split at hX
      · rename_i i n hi
        exact ⟨i, n, hi, hX⟩
      · cases hX
    unfold am_run at h
    split at h
    · cases h
    · rename_i S' hs
      obtain ⟨i, n, h1, h2⟩ := stp _ hs
      obtain ⟨g1, -⟩ := fz_exec hF hB hp (hins i n h1).1.1 (hins i n h1).1.2 h2
      exact nt_run hF hB hm hh hn f S' r g1 h
    · rename_i r' hs
      cases h
      obtain ⟨i, n, h1, h2⟩ := stp _ hs
      have hnew := (hins i n h1).2
      rcases am_exec_inr h2 with ⟨ix, kf, rc, -, -, hask, -⟩ | ⟨-, ⟨-, x, -, -, hY⟩ | ⟨-, a, C, -, -, hY⟩ | ⟨-, -, -, hY⟩⟩ | ⟨ix, kf, hi, -, -, -, -, ht⟩
      · obtain ⟨as, r, -, -, -, ⟨-, -, hX⟩ | ⟨-, a, c, -, -, -, hX⟩⟩ := am_ask_inv hask <;> cases hX
      · cases hY
        exact ⟨_, rfl⟩
      · cases hY
        exact ⟨_, rfl⟩
      · cases hY
        exact ⟨_, rfl⟩
      · rw [hi] at hnew
        cases hnew
    · rename_i j as pc lo st h0 k q hs
      obtain ⟨i, n, h1, h2⟩ := stp _ hs
      obtain ⟨-, g2, -⟩ := fz_exr (hins i n h1).1.1 h2
      have g2 : pc = S.1 := g2
      split at h
      · cases h
      · split at h
        · split at h
          · exact nt_run hF hB hm hh hn f _ r (show p0 ≤ pc + 3 by omega) h
          · split at h
            · split at h
              · split at h
                · split at h
                  · rename_i t ht
                    rw [hh] at ht
                    cases ht
                  · cases h
                · cases h
              · cases h
            · cases h
          · cases h
        · cases h
set_option maxRecDepth 100000 in
theorem mm_22n : (am_c am_m22).all (fun x => Nat.blt x.1 67 || (match x.2.1 with
    | .new _ => false
    | _ => true)) = true := by decide +kernel
set_option maxRecDepth 100000 in
theorem mm_22 : fz_m mm_F (fun _ => false) mm_A 67 am_m22 = true := by decide +kernel
/-- a call that nobody catches for -/
theorem iv_C_ret {mi : am_M} {pc : Nat} {lo : List (Option Value)} {st : List Value} {k q : Nat} {r r1 : am_R} (hm : am_h mi = []) (hc : (∃ v h' k' q', r1 = (.inl v, h', k', q') ∧ Rd mi (pc + 3, lo, v.toList ++ st, h', k + k', q + q') r) ∨ (∃ x h' k' q' c t, r1 = (.inr x, h', k', q') ∧ h'[x]? = some c ∧ am_catch am_cx (am_h mi) pc c.1 = some t ∧ Rd mi (t, lo, [.ref x], h', k + k', q + q') r)) : ∃ v h' k' q', r1 = (.inl v, h', k', q') ∧ Rd mi (pc + 3, lo, v.toList ++ st, h', k + k', q + q') r := by
  rcases hc with hc | ⟨x, h', k', q', c, t, -, -, ht, -⟩
  · exact hc
  · rw [hm] at ht
    cases ht
section IW2
variable {mi : am_M} {mf : fm_M} {pc op a b c d k q : Nat} {lo : List (Option Value)} {st : List Value} {h : am_H} {rr : am_R}
theorem iw_aal {x y t : Nat} {r vs : List Value} {i : Int32} (hmf : wk_mck am_fty am_lk wk_tls mi mf = true) (hw : wk_at mf pc 30 a b c d = true) (hc : h[x]? = some (t, vs)) (hcm : (am_cmp t).isSome = true) (hi : 2147483648 ≤ ab_b i) (hv : vs[ab_b i - 2147483648]? = some (.ref y)) (hr : Rd mi (pc, lo, .int i :: .ref x :: r, h, k, q) rr) : Rd mi (pc + 1, lo, .ref y :: r, h, k, q) rr := by
  have e : am_rd vs i = some (.ref y) := by
    unfold am_rd
    rw [if_neg (ab_ix hi).1, (ab_ix hi).2]
    exact hv
  refine iw_st hmf hw hr ?_
  simp only [wk_ex]
  rw [hc]
  dsimp only
  rw [if_pos hcm, e]
  rfl
theorem iw_put {x : Nat} {r vs : List Value} {v : Value} (hmf : wk_mck am_fty am_lk wk_tls mi mf = true) (hw : wk_at mf pc 26 a b c d = true) (hc : h[x]? = some (a, vs)) (hb : b < vs.length) (hf : wk_fit c v = true) (hr : Rd mi (pc, lo, v :: .ref x :: r, h, k, q) rr) : Rd mi (pc + 3, lo, r, h.set x (a, vs.set b v), k, q) rr := by
  refine iw_st hmf hw hr ?_
  simp only [wk_ex]
  rw [ab_arr hc]
  dsimp only
  rw [if_pos ⟨hb, hf⟩]
  rfl
end IW2
set_option maxRecDepth 100000 in
/-- isMachine -/
theorem mm_ism {u : Nat → Nat} {h : am_H} {v1 : List Value} {z zc : Int32} (e1 : h[u 1]? = some (0, v1)) (s5 : v1[5]? = some (.int zc)) {r : am_R} (hr : Rd am_m15 (0, [some (.ref (u 1)), some (.int z)], [], h, 0, 0) r) : (j_in z zc ∧ r = (.inl (some (.int 1)), h, 0, 0)) ∨ (¬ j_in z zc ∧ r = (.inl (some (.int 0)), h, 0, 0)) := by
  have hr := iw_st wk_q15 (show wk_at wk_m15 0 2 1 1 0 0 = true by decide +kernel) hr rfl
  have hr := iw_st wk_q15 (show wk_at wk_m15 1 3 0 1 0 0 = true by decide +kernel) hr rfl
  have hr := iw_get wk_q15 (show wk_at wk_m15 2 25 0 5 0 0 = true by decide +kernel) e1 s5 hr
  obtain ⟨r1, hr1, hcr1⟩ := iw_is (as := [.int z, .int zc]) (r := []) wk_q15 (show wk_at wk_m15 5 40 13 2 0 0 = true by decide +kernel) rfl rfl (Nat.le_of_ble_eq_true rfl) (mj := am_m13) rfl hr
  have q1 := Rd_det (jc_below (Q := fun r => (j_in z zc ∧ r = (.inl (some (.int 1)), h, 0, 0)) ∨ (¬ j_in z zc ∧ r = (.inl (some (.int 0)), h, 0, 0))) (fun e => Or.inl ⟨e, rfl⟩) (fun e => Or.inr ⟨e, rfl⟩)) hr1
  obtain ⟨w1, g1, k1, p1, er1, hr⟩ := iv_C_ret rfl hcr1
  rcases q1 with ⟨hin, rfl⟩ | ⟨hin, rfl⟩
  · cases er1
    exact Or.inl ⟨hin, iw_en wk_q15 (show wk_at wk_m15 8 44 1 0 0 0 = true by decide +kernel) hr rfl⟩
  · cases er1
    exact Or.inr ⟨hin, iw_en wk_q15 (show wk_at wk_m15 8 44 1 0 0 0 = true by decide +kernel) hr rfl⟩
/-- how move ends -/
def mm_Q (u : Nat → Nat) (h : am_H) (zc zm zl : Int32) (r : am_R) : Prop := (¬ (j_in zm zc ∧ j_in zl 4) ∧ r = (.inr h.length, h ++ [(10, [])], 1, 6)) ∨ (j_in zm zc ∧ j_in zl 4 ∧ ∃ (y : Nat) (d : Int32), ab_sl h (u 6) (ab_b zm - 2147483648) = some (.ref y) ∧ ab_sl h y 3 = some (.int d) ∧ ((d = zl ∧ r = (.inr h.length, h ++ [(11, [])], 1, 6)) ∨ (d ≠ zl ∧ ∃ h' k' q', r = (.inl none, h', k', q') ∧ ∀ a va, h[a]? = some (5, va) → ab_sl h' a 3 = if a = y then some (.int zl) else ab_sl h a 3)))
set_option maxRecDepth 100000 in
theorem mm_move {τ u : Nat → Nat} {mc Tc Tm : Nat} (hmc : mc < 9) (hU : ab_U w_uq τ u) (hut : ∀ k, w_uq k = true → τ (u k) = k) {h : am_H} (hJ : j_J τ u mc Tc Tm h) {zc zm zl : Int32} (hzc : ab_sl h (u 1) 5 = some (.int zc)) (hc5 : ab_b zc = 2147483648 + mc) {r : am_R} (hr : Rd am_m22 (0, [some (.ref (u 1)), some (.int zm), some (.int zl), none], [], h, 0, 0) r) : mm_Q u h zc zm zl r := by
  have hud := md_ud hut
  obtain ⟨v1, e1⟩ := ii_at hut hJ 1 (by decide +kernel) (by decide)
  obtain ⟨v3, e3⟩ := ii_at hut hJ 3 (by decide +kernel) (by decide)
  obtain ⟨v6, e6⟩ := ii_at hut hJ 6 (by decide +kernel) (by decide)
  have s4 : ab_sl h (u 1) 4 = some (.ref (u 6)) := j_row1 (mc := mc) hU hJ.1 (by rw [hut 1 (by decide +kernel)]; decide) (by rw [hut 1 (by decide +kernel)]; decide) (by rw [hut 1 (by decide +kernel)]; rfl) (by decide +kernel)
  have s1 : ab_sl h (u 1) 1 = some (.ref (u 3)) := j_row1 (mc := mc) hU hJ.1 (by rw [hut 1 (by decide +kernel)]; decide) (by rw [hut 1 (by decide +kernel)]; decide) (by rw [hut 1 (by decide +kernel)]; rfl) (by decide +kernel)
  have s5 := hzc
  rw [ab_sl_at e1] at s4 s1 s5
  have hr := iw_st wk_q22 (show wk_at wk_m22 0 3 0 1 0 0 = true by decide +kernel) hr rfl
  have hr := iw_st wk_q22 (show wk_at wk_m22 1 2 1 1 0 0 = true by decide +kernel) hr rfl
  obtain ⟨r1, hr1, hcr1⟩ := iw_iv (as := [.int zm]) (r := []) wk_q22 (show wk_at wk_m22 2 40 15 1 2 0 = true by decide +kernel) e1 rfl rfl rfl (Nat.le_of_ble_eq_true rfl) (mj := am_m15) rfl hr
  have q1 := mm_ism e1 s5 hr1
  obtain ⟨w1, g1, k1, p1, er1, hr⟩ := iv_C_ret rfl hcr1
  rcases q1 with ⟨hin, rfl⟩ | ⟨hin, rfl⟩
  rotate_left
  · cases er1
    have hr := iw_ift wk_q22 (show wk_at wk_m22 5 22 0 15 0 0 = true by decide +kernel) (by decide) hr
    exact Or.inl ⟨fun e => hin e.1, iw_en wk_q22 (show wk_at wk_m22 15 39 10 0 0 0 = true by decide +kernel) hr rfl⟩
  cases er1
  have hr := iw_iff wk_q22 (show wk_at wk_m22 5 22 0 15 0 0 = true by decide +kernel) (by decide) hr
  have hr := iw_st wk_q22 (show wk_at wk_m22 8 2 2 1 0 0 = true by decide +kernel) hr rfl
  obtain ⟨r2, hr2, hcr2⟩ := iw_is (as := [.int zl]) (r := []) wk_q22 (show wk_at wk_m22 9 40 14 1 0 0 = true by decide +kernel) rfl rfl (Nat.le_of_ble_eq_true rfl) (mj := am_m14) rfl hr
  have q2 := Rd_det (jc_leaf (Q := fun r => (j_in zl 4 ∧ r = (.inl (some (.int 1)), h, 0, 0)) ∨ (¬ j_in zl 4 ∧ r = (.inl (some (.int 0)), h, 0, 0))) (fun e => Or.inl ⟨e, rfl⟩) (fun e => Or.inr ⟨e, rfl⟩)) hr2
  obtain ⟨w2, g2, k2, p2, er2, hr⟩ := iv_C_ret rfl hcr2
  rcases q2 with ⟨hlf, rfl⟩ | ⟨hlf, rfl⟩
  rotate_left
  · cases er2
    have hr := iw_iff wk_q22 (show wk_at wk_m22 12 22 1 25 0 0 = true by decide +kernel) (by decide) hr
    exact Or.inl ⟨fun e => hlf e.2, iw_en wk_q22 (show wk_at wk_m22 15 39 10 0 0 0 = true by decide +kernel) hr rfl⟩
  cases er2
  obtain ⟨hz1, hz2⟩ := hin
  have hzm : ab_b zm - 2147483648 < mc := by omega
  obtain ⟨y, z1, z2, hy6, -⟩ := hJ.2.2.2.2.2.2 _ hzm
  have hy := j_rel32 hmc hut hJ hzm hy6
  obtain ⟨vy, ey, ly, -⟩ := hJ.1 y (by rw [hy]; decide)
  rw [hy] at ey ly
  have ey : h[y]? = some (5, vy) := ey
  have ly : vy.length = 13 := ly
  obtain ⟨d, hd, -, -⟩ := kc_int hJ.1 hy (by decide) (i := 3) (by decide) (lo := Nat.add 2147483648 0) (hi := Nat.add 2147483648 3) rfl
  have hd3 := hd
  rw [ab_sl_at ey] at hd3
  have hy6c := hy6
  rw [ab_sl_at e6] at hy6c
  have hr := iw_ift wk_q22 (show wk_at wk_m22 12 22 1 25 0 0 = true by decide +kernel) (by decide) hr
  have hr := iw_st wk_q22 (show wk_at wk_m22 25 3 0 1 0 0 = true by decide +kernel) hr rfl
  have hr := iw_get wk_q22 (show wk_at wk_m22 26 25 0 4 0 0 = true by decide +kernel) e1 s4 hr
  have hr := iw_st wk_q22 (show wk_at wk_m22 29 2 1 1 0 0 = true by decide +kernel) hr rfl
  have hr := iw_aal wk_q22 (show wk_at wk_m22 30 30 0 0 0 0 = true by decide +kernel) e6 (by decide) hz1 hy6c hr
  have hr := iw_st wk_q22 (show wk_at wk_m22 31 5 3 1 0 0 = true by decide +kernel) hr rfl
  have hr := iw_st wk_q22 (show wk_at wk_m22 32 3 3 1 0 0 = true by decide +kernel) hr rfl
  have hr := iw_get wk_q22 (show wk_at wk_m22 33 25 5 3 0 0 = true by decide +kernel) ey hd3 hr
  have hr := iw_st wk_q22 (show wk_at wk_m22 36 2 2 1 0 0 = true by decide +kernel) hr rfl
  refine Or.inr ⟨⟨hz1, hz2⟩, hlf, y, d, hy6, hd, ?_⟩
  by_cases hdl : d = zl
  · refine Or.inl ⟨hdl, ?_⟩
    have hr := iw_icf wk_q22 (show wk_at wk_m22 37 23 1 50 0 0 = true by decide +kernel) (by show (!decide (d = zl)) = false; rw [decide_eq_true hdl]; rfl) hr
    exact iw_en wk_q22 (show wk_at wk_m22 40 39 11 0 0 0 = true by decide +kernel) hr rfl
  refine Or.inr ⟨hdl, ?_⟩
  have hr := iw_ict wk_q22 (show wk_at wk_m22 37 23 1 50 0 0 = true by decide +kernel) (by show (!decide (d = zl)) = true; rw [decide_eq_false hdl]; rfl) hr
  have hr := iw_st wk_q22 (show wk_at wk_m22 50 3 0 1 0 0 = true by decide +kernel) hr rfl
  have hr := iw_get wk_q22 (show wk_at wk_m22 51 25 0 1 0 0 = true by decide +kernel) e1 s1 hr
  have hr := iw_st wk_q22 (show wk_at wk_m22 54 3 3 1 0 0 = true by decide +kernel) hr rfl
  have hr := iw_get wk_q22 (show wk_at wk_m22 55 25 5 3 0 0 = true by decide +kernel) ey hd3 hr
  have hr := iw_st wk_q22 (show wk_at wk_m22 58 2 1 1 0 0 = true by decide +kernel) hr rfl
  obtain ⟨r3, hr3, hcr3⟩ := iw_iv (as := [.int d, .int zm]) (r := []) wk_q22 (show wk_at wk_m22 59 40 77 2 2 8 = true by decide +kernel) e3 rfl rfl rfl (Nat.le_of_ble_eq_true rfl) (mj := am_m77) rfl hr
  obtain ⟨w3, h3, k3, p3, rfl, hr⟩ := iv_C_ret rfl hcr3
  obtain rfl := Rd_rt rfl hr3
  have f3 : fz_eq mm_F (fun _ => false) h h3 := mm_run (j := 77) rfl rfl hr3
  obtain ⟨vy3, ey3, py3⟩ := fz_cel f3 ey
  have l3 : 3 < vy3.length := by
    have : vy3[3]? = some (.int d) := by rw [py3 3 rfl]; exact hd3
    exact (List.getElem?_eq_some_iff.mp this).1
  have hr := iw_st wk_q22 (show wk_at wk_m22 62 3 3 1 0 0 = true by decide +kernel) hr rfl
  have hr := iw_st wk_q22 (show wk_at wk_m22 63 2 2 1 0 0 = true by decide +kernel) hr rfl
  have hr := iw_put wk_q22 (show wk_at wk_m22 64 26 5 3 0 0 = true by decide +kernel) ey3 l3 rfl hr
  have hv : ∀ v : Option Value, ∀ h' k' q', r = (.inl v, h', k', q') → v = none := fun v h' k' q' e => by
    rw [e] at hr
    exact Rd_rt rfl hr
  obtain ⟨f, er⟩ := hr
  have hf := fz_run mm_hF mm_hB mm_hA f _ 67 am_m22 _ _ mm_22 (Nat.le_refl _) er
  have hf : fz_eq mm_F (fun _ => false) (h3.set y (5, vy3.set 3 (.int zl))) r.2.1 := hf
  obtain ⟨v, ev⟩ := nt_run mm_hF mm_hB mm_22 rfl mm_22n f _ r (Nat.le_refl _) er
  obtain ⟨r0, h4, k4, q4⟩ := r
  have ev : r0 = .inl v := ev
  subst ev
  obtain rfl := hv v h4 k4 q4 rfl
  refine ⟨h4, k4, q4, rfl, fun a va ea => ?_⟩
  obtain ⟨va3, ea3, pa3⟩ := fz_cel f3 ea
  by_cases hay : a = y
  · subst hay
    obtain ⟨va4, ea4, pa4⟩ := fz_cel (t := 5) (vs := vy3.set 3 (.int zl)) (a := a) hf (List.getElem?_set_self (List.getElem?_eq_some_iff.mp ey3).1)
    rw [if_pos rfl, ab_sl_at ea4, pa4 3 rfl, List.getElem?_set_self l3]
  · obtain ⟨va4, ea4, pa4⟩ := fz_cel (t := 5) (vs := va3) (a := a) hf (by rw [List.getElem?_set_ne (Ne.symm hay)]; exact ea3)
    rw [if_neg hay, ab_sl_at ea4, pa4 3 rfl, pa3 3 rfl, ← ab_sl_at ea]
set_option maxRecDepth 100000 in
/-- the law's move of the class -/
theorem ml_move {τ u : Nat → Nat} {mc Tc Tm : Nat} (hmc : mc < 9) (hU : ab_U w_uq τ u) (hut : ∀ k, w_uq k = true → τ (u k) = k) {h : am_H} (hJ : j_J τ u mc Tc Tm h) {zc zm zl : Int32} (hzc : ab_sl h (u 1) 5 = some (.int zc)) (hc5 : ab_b zc = 2147483648 + mc) {r : am_R} (hr : Rd am_m138 (0, [some (.ref (u 1)), some (.int zm), some (.int zl), none], [], h, 0, 0) r) : ∃ (w : Int32) (h' : am_H) (k' q' : Nat), r = (.inl (some (.int w)), h', k', q') ∧ ((¬ (j_in zm zc ∧ j_in zl 4) ∧ w = 1 ∧ ∀ a va, h[a]? = some (5, va) → ab_sl h' a 3 = ab_sl h a 3) ∨ (j_in zm zc ∧ j_in zl 4 ∧ ∃ (y : Nat) (d : Int32), ab_sl h (u 6) (ab_b zm - 2147483648) = some (.ref y) ∧ ab_sl h y 3 = some (.int d) ∧ ((d = zl ∧ w = 2 ∧ ∀ a va, h[a]? = some (5, va) → ab_sl h' a 3 = ab_sl h a 3) ∨ (d ≠ zl ∧ w = 0 ∧ ∀ a va, h[a]? = some (5, va) → ab_sl h' a 3 = if a = y then some (.int zl) else ab_sl h a 3)))) := by
  obtain ⟨v1, e1⟩ := ii_at hut hJ 1 (by decide +kernel) (by decide)
  have app : ∀ c, ∀ a va, h[a]? = some (5, va) → ab_sl (h ++ [c]) a 3 = ab_sl h a 3 := fun c a va e => ab_sl_app (List.getElem?_eq_some_iff.mp e).1
  have lst : ∀ c : am_C, (h ++ [c])[h.length]? = some c := fun c => by rw [List.getElem?_append_right (Nat.le_refl _), Nat.sub_self]; rfl
  have hr := iw_st wk_q138 (show wk_at wk_m138 0 3 0 1 0 0 = true by decide +kernel) hr rfl
  have hr := iw_st wk_q138 (show wk_at wk_m138 1 2 1 1 0 0 = true by decide +kernel) hr rfl
  have hr := iw_st wk_q138 (show wk_at wk_m138 2 2 2 1 0 0 = true by decide +kernel) hr rfl
  obtain ⟨r1, hr1, hcr1⟩ := iw_iv (as := [.int zm, .int zl]) (r := []) wk_q138 (show wk_at wk_m138 3 40 22 2 2 0 = true by decide +kernel) e1 rfl rfl rfl (Nat.le_of_ble_eq_true rfl) (mj := am_m22) rfl hr
  rcases mm_move hmc hU hut hJ hzc hc5 hr1 with ⟨hin, rfl⟩ | ⟨hin, hlf, y, d, hy, hd, ⟨hdb, rfl⟩ | ⟨hdb, h2, k2, q2, rfl, e8b⟩⟩
  · rcases hcr1 with ⟨v, g1, k1, p1, e, -⟩ | ⟨x, g1, k1, p1, c, t, e, hx, ht, hr⟩
    · cases e
    · cases e
      rw [lst] at hx
      cases hx
      have ht9 : am_catch am_cx (am_h am_m138) 3 10 = some 9 := by decide +kernel
      have ht : am_catch am_cx (am_h am_m138) 3 10 = some t := ht
      rw [ht9] at ht
      cases ht
      have hr := iw_st wk_q138 (show wk_at wk_m138 9 5 3 1 0 0 = true by decide +kernel) hr rfl
      have hr := iw_st wk_q138 (show wk_at wk_m138 10 1 9 1 0 0 = true by decide +kernel) hr rfl
      exact ⟨_, _, _, _, iw_en wk_q138 (show wk_at wk_m138 11 44 0 0 0 0 = true by decide +kernel) hr rfl, Or.inl ⟨hin, by decide, app _⟩⟩
  · rcases hcr1 with ⟨v, g1, k1, p1, e, -⟩ | ⟨x, g1, k1, p1, c, t, e, hx, ht, hr⟩
    · cases e
    · cases e
      rw [lst] at hx
      cases hx
      have ht9 : am_catch am_cx (am_h am_m138) 3 11 = some 12 := by decide +kernel
      have ht : am_catch am_cx (am_h am_m138) 3 11 = some t := ht
      rw [ht9] at ht
      cases ht
      have hr := iw_st wk_q138 (show wk_at wk_m138 12 5 3 1 0 0 = true by decide +kernel) hr rfl
      have hr := iw_st wk_q138 (show wk_at wk_m138 13 1 17 1 0 0 = true by decide +kernel) hr rfl
      exact ⟨_, _, _, _, iw_en wk_q138 (show wk_at wk_m138 14 44 0 0 0 0 = true by decide +kernel) hr rfl, Or.inr ⟨hin, hlf, y, d, hy, hd, Or.inl ⟨hdb, by decide, app _⟩⟩⟩
  · rcases hcr1 with ⟨v, g1, k1, p1, e, hr⟩ | ⟨x, g1, k1, p1, c, t, e, -, -, -⟩
    · cases e
      have hr := iw_st wk_q138 (show wk_at wk_m138 6 21 15 0 0 0 = true by decide +kernel) hr rfl
      have hr := iw_st wk_q138 (show wk_at wk_m138 15 1 1 1 0 0 = true by decide +kernel) hr rfl
      exact ⟨_, _, _, _, iw_en wk_q138 (show wk_at wk_m138 16 44 0 0 0 0 = true by decide +kernel) hr rfl, Or.inr ⟨hin, hlf, y, d, hy, hd, Or.inr ⟨hdb, by decide, e8b⟩⟩⟩
    · cases e
