/-! ===== class and reference have the same routes ===== -/
def r_cu (c u : Nat → Nat) : Prop := c 0 = u 7 ∧ c 1 = u 8 ∧ c 2 = u 9 ∧ c 3 = u 11 ∧ c 4 = u 13 ∧ (∀ n, n < 6 → c (17 + n) = u (14 + n)) ∧ c 23 = u 40 ∧ c 24 = u 41 ∧ c 25 = u 42
theorem rv_I {G : Nat → Nat → List ab_V} {τ : Nat → Nat} {tv a k : Nat} {h : am_H} (hI : ab_I w_kd w_un G τ tv h) (ha : τ a = k) (h0 : k ≠ 0) : rv_C h a (w_kd k).1 (w_kd k).2 := by
  obtain ⟨vs, e1, e2, -⟩ := hI a (by rw [ha]; exact h0)
  rw [ha] at e1 e2
  exact ⟨vs, e1, e2⟩
/-- a row of rows -/
theorem r_ref {τ : Nat → Nat} {mc tv a n k κ y : Nat} {h : am_H} (hI : ab_I w_kd w_un (w_G mc) τ tv h) (ha : τ a = κ) (h0 : κ ≠ 0) (hn : n < (w_kd κ).2) (hG : w_G mc κ (ab_gi w_un κ n) = [(2, k, 0)]) (hy : ab_sl h a n = some (.ref y)) : τ y = k := by
  obtain ⟨vs, x, -, -, -, hs, v, hv, hg⟩ := ab_I_sl hI (a := a) (i := n) (by rw [ha]; exact h0) (by rw [ha]; exact hn)
  rw [hy] at hs
  cases hs
  rw [ha, hG] at hv
  have := List.mem_singleton.mp hv
  subst this
  obtain ⟨y', e1, e2, -⟩ := hg
  cases e1
  exact e2
theorem r_G9 (mc n : Nat) : w_G mc 9 (ab_gi w_un 9 n) = [(2, 10, 0)] ∧ w_G mc 11 (ab_gi w_un 11 n) = [(2, 12, 0)] := ⟨rfl, rfl⟩
theorem r_uq6 : ∀ n, n < 6 → w_uq (14 + n) = true ∧ k_C (14 + n) = true ∧ 14 + n ≠ 0 ∧ w_kd (14 + n) = (100, 4) := by decide +kernel
theorem rc_kP {τ τ' u c : Nat → Nat} {mc mc' tv tv' : Nat} {w : Nat → Nat → Nat → Nat} {dn : Nat → Nat} {h h' : am_H} (hut : ∀ k, w_uq k = true → τ (u k) = k) (hU' : ab_U w_uq τ' u) (hut' : ∀ k, w_uq k = true → τ' (u k) = k) (hcu : r_cu c u) (hIh : ab_I w_kd w_un (w_G mc) τ tv h) (hIh' : ab_I w_kd w_un (w_G mc') τ' tv' h') (kp : g_P k_C τ h h') (hI : rc_I c w dn h) : rc_I c w dn h' := by
  obtain ⟨⟨⟨a1, a2, a3, a4, a5⟩, ⟨b1, b2, b3, b4⟩, W⟩, hT, hD, hN⟩ := hI
  obtain ⟨u0, u1, u2, u3, u4, u17, u23, u24, u25⟩ := hcu
  have su : ∀ k i, w_uq k = true → k_C k = true → ab_sl h' (u k) i = ab_sl h (u k) i := fun k i hk hK => kp _ _ (by rw [hut k hk]; exact hK)
  have sh : ∀ k, w_uq k = true → k ≠ 0 → rv_C h' (u k) (w_kd k).1 (w_kd k).2 := fun k hk h0 => rv_I hIh' (hut' k hk) h0
  have r7 : ∀ i k, i < 4 → w_G mc' 7 (ab_gi w_un 7 i) = [(2, k, 0)] → w_uq k = true → ab_sl h' (u 7) i = some (.ref (u k)) := fun i k hi hG hk => j_row1 (mc := mc') hU' hIh' (by rw [hut' 7 (by decide +kernel)]; decide) (by rw [hut' 7 (by decide +kernel)]; exact hi) (by rw [hut' 7 (by decide +kernel)]; exact hG) hk
  have t5 : ∀ n, n < 6 → τ (c (5 + n)) = 10 ∧ τ' (c (5 + n)) = 10 := fun n hn => by
    have e := (W n hn).1.1
    rw [u2] at e
    exact ⟨r_ref hIh (hut 9 (by decide +kernel)) (by decide) hn (r_G9 mc n).1 e, r_ref hIh' (hut' 9 (by decide +kernel)) (by decide) hn (r_G9 mc' n).1 (by rw [su 9 n (by decide +kernel) (by decide +kernel)]; exact e)⟩
  have t11 : ∀ n, n < 6 → τ (c (11 + n)) = 12 ∧ τ' (c (11 + n)) = 12 := fun n hn => by
    have e := (W n hn).2.1.1
    rw [u3] at e
    exact ⟨r_ref hIh (hut 11 (by decide +kernel)) (by decide) hn (r_G9 mc n).2 e, r_ref hIh' (hut' 11 (by decide +kernel)) (by decide) hn (r_G9 mc' n).2 (by rw [su 11 n (by decide +kernel) (by decide +kernel)]; exact e)⟩
  refine ⟨⟨⟨by rw [u0]; exact sh 7 (by decide +kernel) (by decide), by rw [u0, u1]; exact r7 0 8 (by decide) rfl (by decide +kernel), by rw [u0, u2]; exact r7 1 9 (by decide) rfl (by decide +kernel), by rw [u0, u3]; exact r7 2 11 (by decide) rfl (by decide +kernel), by rw [u0, u4]; exact r7 3 13 (by decide) rfl (by decide +kernel)⟩, ⟨by rw [u1]; exact sh 8 (by decide +kernel) (by decide), by rw [u2]; exact sh 9 (by decide +kernel) (by decide), by rw [u3]; exact sh 11 (by decide +kernel) (by decide), by rw [u4]; exact sh 13 (by decide +kernel) (by decide)⟩, fun n hn => ?_⟩, fun n j l hn h6 h4 => ?_, fun n l hn h4 => ?_, fun i hi => ?_⟩
  · obtain ⟨⟨p1, p2⟩, ⟨p3, p4⟩, p5, p6⟩ := W n hn
    obtain ⟨q1, q2, q3, q4⟩ := r_uq6 n hn
    rw [u2] at p1
    rw [u3] at p3
    rw [u4] at p5
    have s14 := sh (14 + n) q1 q3
    rw [q4] at s14
    exact ⟨⟨by rw [u2, su 9 n (by decide +kernel) (by decide +kernel)]; exact p1, rv_I hIh' (t5 n hn).2 (by decide)⟩, ⟨by rw [u3, su 11 n (by decide +kernel) (by decide +kernel)]; exact p3, rv_I hIh' (t11 n hn).2 (by decide)⟩, by rw [u4, su 13 n (by decide +kernel) (by decide +kernel)]; exact p5, by rw [u17 n hn]; exact s14⟩
  · rw [kp _ _ (by rw [(t5 n hn).1]; decide +kernel)]
    exact hT n j l hn h6 h4
  · obtain ⟨q1, q2, q3, q4⟩ := r_uq6 n hn
    rw [kp _ _ (by rw [(t11 n hn).1]; decide +kernel), u17 n hn, su _ _ q1 q2, ← u17 n hn]
    exact hD n l hn h4
  · rw [u1, su 8 i (by decide +kernel) (by decide +kernel), ← u1]
    exact hN i hi
theorem rr_kP {τ τ' u c : Nat → Nat} {mc' tv' : Nat} {w : Nat → Nat → Nat → Nat} {dn : Nat → Nat} {h h' : am_H} (hut : ∀ k, w_uq k = true → τ (u k) = k) (hU' : ab_U w_uq τ' u) (hut' : ∀ k, w_uq k = true → τ' (u k) = k) (hcu : r_cu c u) (hIh' : ab_I w_kd w_un (w_G mc') τ' tv' h') (kp : g_P k_R τ h h') (hR : rr_I c w dn h) : rr_I c w dn h' := by
  obtain ⟨-, c24, c25, sN, sT⟩ := hR
  obtain ⟨u0, u1, u2, u3, u4, u17, u23, u24, u25⟩ := hcu
  have su : ∀ k i, w_uq k = true → k_R k = true → ab_sl h' (u k) i = ab_sl h (u k) i := fun k i hk hK => kp _ _ (by rw [hut k hk]; exact hK)
  refine ⟨⟨⟨_, by rw [u23]; exact rv_I hIh' (hut' 40 (by decide +kernel)) (by decide)⟩, by rw [u23, u24]; exact md_row hU' hut' hIh' (i := 5) (k := 41) (by decide) rfl (by decide +kernel), by rw [u23, u25]; exact md_row hU' hut' hIh' (i := 6) (k := 42) (by decide) rfl (by decide +kernel)⟩, by rw [u24]; exact rv_I hIh' (hut' 41 (by decide +kernel)) (by decide), by rw [u25]; exact rv_I hIh' (hut' 42 (by decide +kernel)) (by decide), fun i hi => ?_, fun n m l hb hl => ?_⟩
  · rw [u24, su 41 i (by decide +kernel) (by decide +kernel), ← u24]
    exact sN i hi
  · rw [u25, su 42 _ (by decide +kernel) (by decide +kernel), ← u25]
    exact sT n m l hb hl
def ii_I (u : Nat → Nat) (h : am_H) : Prop := ∃ c w dn, rc_j c ∧ r_cu c u ∧ r_16 w ∧ r_01 dn ∧ r_dd w dn ∧ rc_I c w dn h ∧ rr_I c w dn h
theorem ii_k {τ τ' u : Nat → Nat} {mc mc' Tc Tm Tc' Tm' : Nat} {h h' : am_H} (hmc : mc < 9) (hmc' : mc' < 9) (hut : ∀ k, w_uq k = true → τ (u k) = k) (hU' : ab_U w_uq τ' u) (hut' : ∀ k, w_uq k = true → τ' (u k) = k) (hJ : j_J τ u mc Tc Tm h) (hJ' : j_J τ' u mc' Tc' Tm' h') (kp : k_P τ h h') (hi : ii_I u h) : ii_I u h' := by
  obtain ⟨c, w, dn, q1, q2, q3, q4, q5, q6, q7⟩ := hi
  exact ⟨c, w, dn, q1, q2, q3, q4, q5, rc_kP hut hU' hut' q2 hJ.1 hJ'.1 (k_c kp) q6, rr_kP hut hU' hut' q2 hJ'.1 (k_r kp) q7⟩
theorem r_in {z e : Int32} {n : Nat} (hn : n < 10000) (he : e = Int32.ofNat n) (h : j_in z e) : ∃ k, k < n ∧ z = Int32.ofNat k := by
  obtain ⟨h1, h2⟩ := h
  rw [he, r_b (by omega)] at h2
  exact ⟨ab_b z - 2147483648, by omega, r_of (by omega) (by omega)⟩
set_option maxRecDepth 100000 in
theorem r_cdist {τ u c : Nat → Nat} {mc Tc Tm : Nat} (hmc : mc < 9) (hU : ab_U w_uq τ u) (hut : ∀ k, w_uq k = true → τ (u k) = k) {h : am_H} (hJ : j_J τ u mc Tc Tm h) (hcu : r_cu c u) {w : Nat → Nat → Nat → Nat} {dn : Nat → Nat} (hI : rc_I c w dn h) {z1 z2 : Int32} {r : am_R} (hr : Rd am_m3 (0, [some (.ref (u 1)), some (.int z1), some (.int z2)], [], h, 0, 0) r) : (¬ (j_in z1 (Int32.ofNat 6) ∧ j_in z2 4) ∧ r = (.inr h.length, h ++ [(10, [])], 1, 6)) ∨ (∃ n l, n < 6 ∧ l < 4 ∧ z1 = Int32.ofNat n ∧ z2 = Int32.ofNat l ∧ r = (.inl (some (.int (Int32.ofNat (r_d w n l)))), h, 0, 0)) := by
  obtain ⟨⟨⟨a1, a2, a3, a4, a5⟩, ⟨b1, b2, b3, b4⟩, W⟩, hT, hD, hN⟩ := id hI
  have e1 : rv_C h (u 1) 0 8 := rv_I hJ.1 (hut 1 (by decide +kernel)) (by decide)
  have e2 : rv_C h (u 2) 2 7 := rv_I hJ.1 (hut 2 (by decide +kernel)) (by decide)
  have s10 : ab_sl h (u 1) 0 = some (.ref (u 2)) := j_row1 (mc := mc) hU hJ.1 (by rw [hut 1 (by decide +kernel)]; decide) (by rw [hut 1 (by decide +kernel)]; decide) (by rw [hut 1 (by decide +kernel)]; rfl) (by decide +kernel)
  have s20 : ab_sl h (u 2) 0 = some (.ref (c 0)) := by rw [hcu.1]; exact j_row1 (mc := mc) hU hJ.1 (by rw [hut 2 (by decide +kernel)]; decide) (by rw [hut 2 (by decide +kernel)]; decide) (by rw [hut 2 (by decide +kernel)]; rfl) (by decide +kernel)
  have hr := iw_st wk_q3 (show wk_at wk_m3 0 2 1 1 0 0 = true by decide +kernel) hr rfl
  have hr := iw_st wk_q3 (show wk_at wk_m3 1 1 49 2 0 0 = true by decide +kernel) hr rfl
  obtain ⟨r1, hr1, hcr1⟩ := iw_is (as := [.int z1, .int (Int32.ofNat (49 / 8))]) (r := []) wk_q3 (show wk_at wk_m3 3 40 13 2 0 0 = true by decide +kernel) rfl rfl (Nat.le_of_ble_eq_true rfl) (mj := am_m13) rfl hr
  have q1 := Rd_det (jc_below (a := z1) (b := Int32.ofNat (49 / 8)) (Q := fun r => (j_in z1 (Int32.ofNat (49 / 8)) ∧ r = (.inl (some (.int 1)), h, 0, 0)) ∨ (¬ j_in z1 (Int32.ofNat (49 / 8)) ∧ r = (.inl (some (.int 0)), h, 0, 0))) (fun e => Or.inl ⟨e, rfl⟩) (fun e => Or.inr ⟨e, rfl⟩)) hr1
  obtain ⟨w1, g1, k1, p1, er1, hr⟩ := iv_C_ret rfl hcr1
  have e6 : Int32.ofNat (49 / 8) = Int32.ofNat 6 := by decide
  rw [e6] at q1
  rcases q1 with ⟨hin, rfl⟩ | ⟨hin, rfl⟩
  rotate_left
  · cases er1
    have hr := iw_ift wk_q3 (show wk_at wk_m3 6 22 0 16 0 0 = true by decide +kernel) (by decide) hr
    exact Or.inl ⟨fun e => hin e.1, iw_en wk_q3 (show wk_at wk_m3 16 39 10 0 0 0 = true by decide +kernel) hr rfl⟩
  cases er1
  have hr := iw_iff wk_q3 (show wk_at wk_m3 6 22 0 16 0 0 = true by decide +kernel) (by decide) hr
  have hr := iw_st wk_q3 (show wk_at wk_m3 9 2 2 1 0 0 = true by decide +kernel) hr rfl
  obtain ⟨r2, hr2, hcr2⟩ := iw_is (as := [.int z2]) (r := []) wk_q3 (show wk_at wk_m3 10 40 14 1 0 0 = true by decide +kernel) rfl rfl (Nat.le_of_ble_eq_true rfl) (mj := am_m14) rfl hr
  have q2 := Rd_det (jc_leaf (Q := fun r => (j_in z2 4 ∧ r = (.inl (some (.int 1)), h, 0, 0)) ∨ (¬ j_in z2 4 ∧ r = (.inl (some (.int 0)), h, 0, 0))) (fun e => Or.inl ⟨e, rfl⟩) (fun e => Or.inr ⟨e, rfl⟩)) hr2
  obtain ⟨w2, g2, k2, p2, er2, hr⟩ := iv_C_ret rfl hcr2
  rcases q2 with ⟨hlf, rfl⟩ | ⟨hlf, rfl⟩
  rotate_left
  · cases er2
    have hr := iw_iff wk_q3 (show wk_at wk_m3 13 22 1 26 0 0 = true by decide +kernel) (by decide) hr
    exact Or.inl ⟨fun e => hlf e.2, iw_en wk_q3 (show wk_at wk_m3 16 39 10 0 0 0 = true by decide +kernel) hr rfl⟩
  cases er2
  have hr := iw_ift wk_q3 (show wk_at wk_m3 13 22 1 26 0 0 = true by decide +kernel) (by decide) hr
  obtain ⟨n, hn, rfl⟩ := r_in (n := 6) (by decide) rfl hin
  obtain ⟨l, hl, rfl⟩ := r_in (n := 4) (by decide) rfl hlf
  obtain ⟨⟨p1, p2⟩, ⟨p3, p4⟩, p5, p6⟩ := W n hn
  have hr := iw_st wk_q3 (show wk_at wk_m3 26 3 0 1 0 0 = true by decide +kernel) hr rfl
  have hr := rw_get wk_q3 (show wk_at wk_m3 27 25 0 0 0 0 = true by decide +kernel) e1 s10 hr
  have hr := rw_get wk_q3 (show wk_at wk_m3 30 25 2 0 0 0 = true by decide +kernel) e2 s20 hr
  have hr := rw_get wk_q3 (show wk_at wk_m3 33 25 7 2 0 0 = true by decide +kernel) a1 a4 hr
  have hr := iw_st wk_q3 (show wk_at wk_m3 36 2 1 1 0 0 = true by decide +kernel) hr rfl
  have hr := rw_aal wk_q3 (show wk_at wk_m3 37 30 0 0 0 0 = true by decide +kernel) ⟨b3, r_cmp3⟩ (by omega) p3 hr
  have hr := iw_st wk_q3 (show wk_at wk_m3 38 2 2 1 0 0 = true by decide +kernel) hr rfl
  have hr := rw_ial wk_q3 (show wk_at wk_m3 39 27 0 0 0 0 = true by decide +kernel) p4 (by omega) (hD n l hn hl).1 hr
  exact Or.inr ⟨n, l, hn, hl, rfl, rfl, iw_en wk_q3 (show wk_at wk_m3 40 44 0 0 0 0 = true by decide +kernel) hr rfl⟩
theorem r_ha6' {B : Nat} {zk : Int32} : ∀ d j b k, r_ha B zk d j b = some k → k < j + d
  | 0, _, _, _, h => by cases h
  | d + 1, j, b, k, h => by
    unfold r_ha at h
    split at h
    · split at h
      · cases h
        omega
      · have := r_ha6' d (j + 1) (b + 1) k h
        omega
    · have := r_ha6' d (j + 1) b k h
      omega
theorem r_ha6 {B : Nat} {zk : Int32} {k : Nat} (h : r_ha B zk 6 0 0 = some k) : k < 6 := r_ha6' 6 0 0 k h
theorem r_ho6' {B n : Nat} {zk : Int32} : ∀ d j b k, r_ho B n zk d j b = some k → k < j + d
  | 0, _, _, _, h => by cases h
  | d + 1, j, b, k, h => by
    unfold r_ho at h
    split at h
    · split at h
      · cases h
        omega
      · have := r_ho6' d (j + 1) (b + 1) k h
        omega
    · have := r_ho6' d (j + 1) b k h
      omega
set_option maxRecDepth 100000 in
theorem r_chop {τ u c : Nat → Nat} {mc Tc Tm : Nat} (hmc : mc < 9) (hU : ab_U w_uq τ u) (hut : ∀ k, w_uq k = true → τ (u k) = k) {h : am_H} (hJ : j_J τ u mc Tc Tm h) (hcu : r_cu c u) {w : Nat → Nat → Nat → Nat} {dn : Nat → Nat} (hI : rc_I c w dn h) (hj : rc_j c) {z1 z2 zk : Int32} {r : am_R} (hr : Rd am_m11 (0, [some (.ref (u 1)), some (.int z1), some (.int z2), some (.int zk), none], [], h, 0, 0) r) : (¬ (j_in z1 (Int32.ofNat 6) ∧ j_in z2 4) ∧ r = (.inr h.length, h ++ [(10, [])], 1, 6)) ∨ (∃ n l, n < 6 ∧ l < 4 ∧ z1 = Int32.ofNat n ∧ z2 = Int32.ofNat l ∧ ((r_ha (r_h w n l) zk 6 0 0 = none ∧ r = (.inr h.length, h ++ [(12, [])], 1, 6)) ∨ (∃ j, r_ha (r_h w n l) zk 6 0 0 = some j ∧ r = (.inl (some (.int (Int32.ofNat j))), h, 0, 0)))) := by
  obtain ⟨⟨⟨a1, a2, a3, a4, a5⟩, ⟨b1, b2, b3, b4⟩, W⟩, hT, hD, hN⟩ := id hI
  have e1 : rv_C h (u 1) 0 8 := rv_I hJ.1 (hut 1 (by decide +kernel)) (by decide)
  have e2 : rv_C h (u 2) 2 7 := rv_I hJ.1 (hut 2 (by decide +kernel)) (by decide)
  have s10 : ab_sl h (u 1) 0 = some (.ref (u 2)) := j_row1 (mc := mc) hU hJ.1 (by rw [hut 1 (by decide +kernel)]; decide) (by rw [hut 1 (by decide +kernel)]; decide) (by rw [hut 1 (by decide +kernel)]; rfl) (by decide +kernel)
  have s20 : ab_sl h (u 2) 0 = some (.ref (c 0)) := by rw [hcu.1]; exact j_row1 (mc := mc) hU hJ.1 (by rw [hut 2 (by decide +kernel)]; decide) (by rw [hut 2 (by decide +kernel)]; decide) (by rw [hut 2 (by decide +kernel)]; rfl) (by decide +kernel)
  have hr := iw_st wk_q11 (show wk_at wk_m11 0 2 1 1 0 0 = true by decide +kernel) hr rfl
  have hr := iw_st wk_q11 (show wk_at wk_m11 1 1 49 2 0 0 = true by decide +kernel) hr rfl
  obtain ⟨r1, hr1, hcr1⟩ := iw_is (as := [.int z1, .int (Int32.ofNat (49 / 8))]) (r := []) wk_q11 (show wk_at wk_m11 3 40 13 2 0 0 = true by decide +kernel) rfl rfl (Nat.le_of_ble_eq_true rfl) (mj := am_m13) rfl hr
  have q1 := Rd_det (jc_below (a := z1) (b := Int32.ofNat (49 / 8)) (Q := fun r => (j_in z1 (Int32.ofNat (49 / 8)) ∧ r = (.inl (some (.int 1)), h, 0, 0)) ∨ (¬ j_in z1 (Int32.ofNat (49 / 8)) ∧ r = (.inl (some (.int 0)), h, 0, 0))) (fun e => Or.inl ⟨e, rfl⟩) (fun e => Or.inr ⟨e, rfl⟩)) hr1
  obtain ⟨w1, g1, k1, p1, er1, hr⟩ := iv_C_ret rfl hcr1
  have e6 : Int32.ofNat (49 / 8) = Int32.ofNat 6 := by decide
  rw [e6] at q1
  rcases q1 with ⟨hin, rfl⟩ | ⟨hin, rfl⟩
  rotate_left
  · cases er1
    have hr := iw_ift wk_q11 (show wk_at wk_m11 6 22 0 16 0 0 = true by decide +kernel) (by decide) hr
    exact Or.inl ⟨fun e => hin e.1, iw_en wk_q11 (show wk_at wk_m11 16 39 10 0 0 0 = true by decide +kernel) hr rfl⟩
  cases er1
  have hr := iw_iff wk_q11 (show wk_at wk_m11 6 22 0 16 0 0 = true by decide +kernel) (by decide) hr
  have hr := iw_st wk_q11 (show wk_at wk_m11 9 2 2 1 0 0 = true by decide +kernel) hr rfl
  obtain ⟨r2, hr2, hcr2⟩ := iw_is (as := [.int z2]) (r := []) wk_q11 (show wk_at wk_m11 10 40 14 1 0 0 = true by decide +kernel) rfl rfl (Nat.le_of_ble_eq_true rfl) (mj := am_m14) rfl hr
  have q2 := Rd_det (jc_leaf (Q := fun r => (j_in z2 4 ∧ r = (.inl (some (.int 1)), h, 0, 0)) ∨ (¬ j_in z2 4 ∧ r = (.inl (some (.int 0)), h, 0, 0))) (fun e => Or.inl ⟨e, rfl⟩) (fun e => Or.inr ⟨e, rfl⟩)) hr2
  obtain ⟨w2, g2, k2, p2, er2, hr⟩ := iv_C_ret rfl hcr2
  rcases q2 with ⟨hlf, rfl⟩ | ⟨hlf, rfl⟩
  rotate_left
  · cases er2
    have hr := iw_iff wk_q11 (show wk_at wk_m11 13 22 1 26 0 0 = true by decide +kernel) (by decide) hr
    exact Or.inl ⟨fun e => hlf e.2, iw_en wk_q11 (show wk_at wk_m11 16 39 10 0 0 0 = true by decide +kernel) hr rfl⟩
  cases er2
  have hr := iw_ift wk_q11 (show wk_at wk_m11 13 22 1 26 0 0 = true by decide +kernel) (by decide) hr
  obtain ⟨n, hn, rfl⟩ := r_in (n := 6) (by decide) rfl hin
  obtain ⟨l, hl, rfl⟩ := r_in (n := 4) (by decide) rfl hlf
  obtain ⟨⟨p1, p2⟩, ⟨p3, p4⟩, p5, p6⟩ := W n hn
  have hr := iw_st wk_q11 (show wk_at wk_m11 26 3 0 1 0 0 = true by decide +kernel) hr rfl
  have hr := rw_get wk_q11 (show wk_at wk_m11 27 25 0 0 0 0 = true by decide +kernel) e1 s10 hr
  have hr := rw_get wk_q11 (show wk_at wk_m11 30 25 2 0 0 0 = true by decide +kernel) e2 s20 hr
  have hr := iw_st wk_q11 (show wk_at wk_m11 33 2 1 1 0 0 = true by decide +kernel) hr rfl
  have hr := iw_st wk_q11 (show wk_at wk_m11 34 2 2 1 0 0 = true by decide +kernel) hr rfl
  have hr := iw_st wk_q11 (show wk_at wk_m11 35 2 3 1 0 0 = true by decide +kernel) hr rfl
  obtain ⟨x1, hx1, hcx1⟩ := rw_iv (as := [.int (Int32.ofNat n), .int (Int32.ofNat l), .int zk]) (r := []) wk_q11 (show wk_at wk_m11 36 40 68 3 2 7 = true by decide +kernel) a1 rfl rfl (Nat.le_of_ble_eq_true rfl) (mj := am_m68) rfl hr
  have hqx1 := r_hopAt hj hI.1 hn hl (r_h64 w n l) (hD n l hn hl).2 hx1
  subst hqx1
  obtain ⟨_, _, _, _, ex1, hr⟩ := iv_C_ret rfl hcx1
  cases ex1
  have hr := iw_st wk_q11 (show wk_at wk_m11 39 4 4 2 0 0 = true by decide +kernel) hr rfl
  have hr := iw_st wk_q11 (show wk_at wk_m11 41 2 4 2 0 0 = true by decide +kernel) hr rfl
  have hr := iw_st wk_q11 (show wk_at wk_m11 43 1 34359738361 1 0 0 = true by decide +kernel) hr rfl
  cases hk : r_ha (r_h w n l) zk 6 0 0 with
  | none =>
    rw [hk] at hr
    have hr := iw_icf wk_q11 (show wk_at wk_m11 44 23 1 57 0 0 = true by decide +kernel) (by decide) hr
    exact Or.inr ⟨n, l, hn, hl, rfl, rfl, Or.inl ⟨hk, iw_en wk_q11 (show wk_at wk_m11 47 39 12 0 0 0 = true by decide +kernel) hr rfl⟩⟩
  | some j =>
    rw [hk] at hr
    have hj6 := r_ha6 hk
    have hr := iw_ict wk_q11 (show wk_at wk_m11 44 23 1 57 0 0 = true by decide +kernel) (by show (!decide (Int32.ofNat j = Int32.ofNat (34359738361 / 8))) = true; rw [decide_eq_false (fun e => by have e1 := congrArg ab_b e; rw [r_b (by omega)] at e1; have e2 : ab_b (Int32.ofNat (34359738361 / 8)) = 2147483647 := (by decide); omega)]; rfl) hr
    have hr := iw_st wk_q11 (show wk_at wk_m11 57 2 4 2 0 0 = true by decide +kernel) hr rfl
    exact Or.inr ⟨n, l, hn, hl, rfl, rfl, Or.inr ⟨j, hk, iw_en wk_q11 (show wk_at wk_m11 59 44 0 0 0 0 = true by decide +kernel) hr rfl⟩⟩
theorem rw_las {mi : am_M} {mf : fm_M} {pc a b c d k q : Nat} {lo : List (Option Value)} {h : am_H} {rr : am_R} {x n j : Nat} {r : List Value} {v : Int64} (hmf : wk_mck am_fty am_lk wk_tls mi mf = true) (hw : wk_at mf pc 33 a b c d = true) (hc : rv_C h x 102 n) (hjn : j < n) (hj : j < 10000) (hr : Rd mi (pc, lo, .long v :: .int (Int32.ofNat j) :: .ref x :: r, h, k, q) rr) : ∃ h', ab_sl h' = rv_u (ab_sl h) x j (.long v) ∧ rv_S h h' ∧ Rd mi (pc + 1, lo, r, h', k, q) rr := by
  obtain ⟨vs, e, el⟩ := hc
  have eb := r_b (a := j) (by omega)
  have hix := ab_ix (z := Int32.ofNat j) (by omega)
  obtain ⟨s1, s2⟩ := rv_set (v := .long v) e (show j < vs.length by omega)
  refine ⟨_, s1, s2, iw_st hmf hw hr ?_⟩
  have ew : am_wr h x 102 vs (Int32.ofNat j) (.long v) = some (h.set x (102, vs.set j (.long v))) := by
    unfold am_wr
    rw [if_neg hix.1, hix.2, eb, Nat.add_sub_cancel_left, if_pos (by omega)]
  simp only [wk_ex]
  rw [ab_arr e]
  dsimp only
  rw [ew]
  rfl
set_option maxRecDepth 100000 in
theorem r_ldist {τ u c : Nat → Nat} {mc Tc Tm : Nat} (hmc : mc < 9) (hU : ab_U w_uq τ u) (hut : ∀ k, w_uq k = true → τ (u k) = k) {h : am_H} (hJ : j_J τ u mc Tc Tm h) (hcu : r_cu c u) {w : Nat → Nat → Nat → Nat} {dn : Nat → Nat} (hI : rc_I c w dn h) {z1 z2 : Int32} {r : am_R} (hr : Rd am_m130 (0, [some (.ref (u 1)), some (.int z1), some (.int z2), some (.ref (u 39)), none], [], h, 0, 0) r) : ∃ (x : Int32) (h' : am_H) (k' q' : Nat), r = (.inl (some (.int x)), h', k', q') ∧ ((¬ (j_in z1 (Int32.ofNat 6) ∧ j_in z2 4) ∧ x = 1) ∨ (∃ n l, n < 6 ∧ l < 4 ∧ z1 = Int32.ofNat n ∧ z2 = Int32.ofNat l ∧ x = 0 ∧ ab_sl h' (u 39) 0 = some (.long (Int32.ofNat (r_d w n l)).toInt64))) := by
  have e1 : rv_C h (u 1) 0 8 := rv_I hJ.1 (hut 1 (by decide +kernel)) (by decide)
  have e39 : rv_C h (u 39) 102 1 := rv_I hJ.1 (hut 39 (by decide +kernel)) (by decide)
  have lst : ∀ c : am_C, (h ++ [c])[h.length]? = some c := fun c => by rw [List.getElem?_append_right (Nat.le_refl _), Nat.sub_self]; rfl
  have hr := iw_st wk_q130 (show wk_at wk_m130 0 3 3 1 0 0 = true by decide +kernel) hr rfl
  have hr := iw_st wk_q130 (show wk_at wk_m130 1 1 1 1 0 0 = true by decide +kernel) hr rfl
  have hr := iw_st wk_q130 (show wk_at wk_m130 2 3 0 1 0 0 = true by decide +kernel) hr rfl
  have hr := iw_st wk_q130 (show wk_at wk_m130 3 2 1 1 0 0 = true by decide +kernel) hr rfl
  have hr := iw_st wk_q130 (show wk_at wk_m130 4 2 2 1 0 0 = true by decide +kernel) hr rfl
  obtain ⟨r1, hr1, hcr1⟩ := rw_iv (as := [.int z1, .int z2]) (r := [.int (Int32.ofNat 0), .ref (u 39)]) wk_q130 (show wk_at wk_m130 5 40 3 2 2 0 = true by decide +kernel) e1 rfl rfl (Nat.le_of_ble_eq_true rfl) (mj := am_m3) rfl hr
  rcases r_cdist hmc hU hut hJ hcu hI hr1 with ⟨hno, rfl⟩ | ⟨n, l, hn, hl, rfl, rfl, rfl⟩
  · rcases hcr1 with ⟨v, g1, k1, p1, e, -⟩ | ⟨x, g1, k1, p1, c, t, e, hx, ht, hr⟩
    · cases e
    · cases e
      rw [lst] at hx
      cases hx
      have ht9 : am_catch am_cx (am_h am_m130) 5 10 = some 13 := by decide +kernel
      have ht : am_catch am_cx (am_h am_m130) 5 10 = some t := ht
      rw [ht9] at ht
      cases ht
      have hr := iw_st wk_q130 (show wk_at wk_m130 13 5 4 2 0 0 = true by decide +kernel) hr rfl
      have hr := iw_st wk_q130 (show wk_at wk_m130 15 1 9 1 0 0 = true by decide +kernel) hr rfl
      exact ⟨_, _, _, _, iw_en wk_q130 (show wk_at wk_m130 16 44 0 0 0 0 = true by decide +kernel) hr rfl, Or.inl ⟨hno, by decide⟩⟩
  · obtain ⟨_, _, _, _, er, hr⟩ : ∃ v h' k' q', ((.inl (some (.int (Int32.ofNat (r_d w n l)))), h, 0, 0) : am_R) = (.inl v, h', k', q') ∧ Rd am_m130 (5 + 3, _, v.toList ++ [.int (Int32.ofNat 0), .ref (u 39)], h', 0 + k', 0 + q') r := by
      rcases hcr1 with ⟨v, g1, k1, p1, e, hr⟩ | ⟨x, g1, k1, p1, c, t, e, -⟩
      · exact ⟨v, g1, k1, p1, e, hr⟩
      · cases e
    cases er
    have hr := iw_st wk_q130 (show wk_at wk_m130 8 16 0 0 0 0 = true by decide +kernel) hr rfl
    obtain ⟨h2, v2, s2, hr⟩ := rw_las wk_q130 (show wk_at wk_m130 9 33 0 0 0 0 = true by decide +kernel) e39 (by decide) (by decide) hr
    have hr := iw_st wk_q130 (show wk_at wk_m130 10 21 17 0 0 0 = true by decide +kernel) hr rfl
    have hr := iw_st wk_q130 (show wk_at wk_m130 17 1 1 1 0 0 = true by decide +kernel) hr rfl
    exact ⟨_, _, _, _, iw_en wk_q130 (show wk_at wk_m130 18 44 0 0 0 0 = true by decide +kernel) hr rfl, Or.inr ⟨n, l, hn, hl, rfl, rfl, by decide, by rw [v2, rv_eq]⟩⟩
set_option maxRecDepth 100000 in
theorem r_lhop {τ u c : Nat → Nat} {mc Tc Tm : Nat} (hmc : mc < 9) (hU : ab_U w_uq τ u) (hut : ∀ k, w_uq k = true → τ (u k) = k) {h : am_H} (hJ : j_J τ u mc Tc Tm h) (hcu : r_cu c u) {w : Nat → Nat → Nat → Nat} {dn : Nat → Nat} (hI : rc_I c w dn h) (hj : rc_j c) {z1 z2 zk : Int32} {r : am_R} (hr : Rd am_m133 (0, [some (.ref (u 1)), some (.int z1), some (.int z2), some (.int zk), some (.ref (u 39)), none], [], h, 0, 0) r) : ∃ (x : Int32) (h' : am_H) (k' q' : Nat), r = (.inl (some (.int x)), h', k', q') ∧ ((¬ (j_in z1 (Int32.ofNat 6) ∧ j_in z2 4) ∧ x = 1) ∨ (∃ n l, n < 6 ∧ l < 4 ∧ z1 = Int32.ofNat n ∧ z2 = Int32.ofNat l ∧ ((r_ha (r_h w n l) zk 6 0 0 = none ∧ x = 2) ∨ (∃ j, r_ha (r_h w n l) zk 6 0 0 = some j ∧ x = 0 ∧ ab_sl h' (u 39) 0 = some (.long (Int32.ofNat j).toInt64))))) := by
  have e1 : rv_C h (u 1) 0 8 := rv_I hJ.1 (hut 1 (by decide +kernel)) (by decide)
  have e39 : rv_C h (u 39) 102 1 := rv_I hJ.1 (hut 39 (by decide +kernel)) (by decide)
  have lst : ∀ c : am_C, (h ++ [c])[h.length]? = some c := fun c => by rw [List.getElem?_append_right (Nat.le_refl _), Nat.sub_self]; rfl
  have hr := iw_st wk_q133 (show wk_at wk_m133 0 3 4 2 0 0 = true by decide +kernel) hr rfl
  have hr := iw_st wk_q133 (show wk_at wk_m133 2 1 1 1 0 0 = true by decide +kernel) hr rfl
  have hr := iw_st wk_q133 (show wk_at wk_m133 3 3 0 1 0 0 = true by decide +kernel) hr rfl
  have hr := iw_st wk_q133 (show wk_at wk_m133 4 2 1 1 0 0 = true by decide +kernel) hr rfl
  have hr := iw_st wk_q133 (show wk_at wk_m133 5 2 2 1 0 0 = true by decide +kernel) hr rfl
  have hr := iw_st wk_q133 (show wk_at wk_m133 6 2 3 1 0 0 = true by decide +kernel) hr rfl
  obtain ⟨r1, hr1, hcr1⟩ := rw_iv (as := [.int z1, .int z2, .int zk]) (r := [.int (Int32.ofNat 0), .ref (u 39)]) wk_q133 (show wk_at wk_m133 7 40 11 3 2 0 = true by decide +kernel) e1 rfl rfl (Nat.le_of_ble_eq_true rfl) (mj := am_m11) rfl hr
  rcases r_chop hmc hU hut hJ hcu hI hj hr1 with ⟨hno, rfl⟩ | ⟨n, l, hn, hl, rfl, rfl, ⟨hk, rfl⟩ | ⟨j, hk, rfl⟩⟩
  · rcases hcr1 with ⟨v, g1, k1, p1, e, -⟩ | ⟨x, g1, k1, p1, c, t, e, hx, ht, hr⟩
    · cases e
    · cases e
      rw [lst] at hx
      cases hx
      have ht9 : am_catch am_cx (am_h am_m133) 7 10 = some 15 := by decide +kernel
      have ht : am_catch am_cx (am_h am_m133) 7 10 = some t := ht
      rw [ht9] at ht
      cases ht
      have hr := iw_st wk_q133 (show wk_at wk_m133 15 5 5 2 0 0 = true by decide +kernel) hr rfl
      have hr := iw_st wk_q133 (show wk_at wk_m133 17 1 9 1 0 0 = true by decide +kernel) hr rfl
      exact ⟨_, _, _, _, iw_en wk_q133 (show wk_at wk_m133 18 44 0 0 0 0 = true by decide +kernel) hr rfl, Or.inl ⟨hno, by decide⟩⟩
  · rcases hcr1 with ⟨v, g1, k1, p1, e, -⟩ | ⟨x, g1, k1, p1, c, t, e, hx, ht, hr⟩
    · cases e
    · cases e
      rw [lst] at hx
      cases hx
      have ht9 : am_catch am_cx (am_h am_m133) 7 12 = some 19 := by decide +kernel
      have ht : am_catch am_cx (am_h am_m133) 7 12 = some t := ht
      rw [ht9] at ht
      cases ht
      have hr := iw_st wk_q133 (show wk_at wk_m133 19 5 5 2 0 0 = true by decide +kernel) hr rfl
      have hr := iw_st wk_q133 (show wk_at wk_m133 21 1 17 1 0 0 = true by decide +kernel) hr rfl
      exact ⟨_, _, _, _, iw_en wk_q133 (show wk_at wk_m133 22 44 0 0 0 0 = true by decide +kernel) hr rfl, Or.inr ⟨n, l, hn, hl, rfl, rfl, Or.inl ⟨hk, by decide⟩⟩⟩
  · obtain ⟨_, _, _, _, er, hr⟩ : ∃ v h' k' q', ((.inl (some (.int (Int32.ofNat j))), h, 0, 0) : am_R) = (.inl v, h', k', q') ∧ Rd am_m133 (7 + 3, _, v.toList ++ [.int (Int32.ofNat 0), .ref (u 39)], h', 0 + k', 0 + q') r := by
      rcases hcr1 with ⟨v, g1, k1, p1, e, hr⟩ | ⟨x, g1, k1, p1, c, t, e, -⟩
      · exact ⟨v, g1, k1, p1, e, hr⟩
      · cases e
    cases er
    have hr := iw_st wk_q133 (show wk_at wk_m133 10 16 0 0 0 0 = true by decide +kernel) hr rfl
    obtain ⟨h2, v2, s2, hr⟩ := rw_las wk_q133 (show wk_at wk_m133 11 33 0 0 0 0 = true by decide +kernel) e39 (by decide) (by decide) hr
    have hr := iw_st wk_q133 (show wk_at wk_m133 12 21 23 0 0 0 = true by decide +kernel) hr rfl
    have hr := iw_st wk_q133 (show wk_at wk_m133 23 1 1 1 0 0 = true by decide +kernel) hr rfl
    exact ⟨_, _, _, _, iw_en wk_q133 (show wk_at wk_m133 24 44 0 0 0 0 = true by decide +kernel) hr rfl, Or.inr ⟨n, l, hn, hl, rfl, rfl, Or.inr ⟨j, hk, by decide, by rw [v2, rv_eq]⟩⟩⟩
set_option maxRecDepth 100000 in
theorem r_mdist {τ u c : Nat → Nat} {mc Tc Tm : Nat} (hmc : mc < 9) (hU : ab_U w_uq τ u) (hut : ∀ k, w_uq k = true → τ (u k) = k) {h : am_H} (hJ : j_J τ u mc Tc Tm h) (hcu : r_cu c u) {w : Nat → Nat → Nat → Nat} {dn : Nat → Nat} (h16 : r_16 w) (h01 : r_01 dn) (hdd : r_dd w dn) (hR : rr_I c w dn h) {z1 z2 : Int32} {r : am_R} (hr : Rd am_m88 (0, [some (.ref (u 40)), some (.int z1), some (.int z2)], [], h, 0, 0) r) : ∃ (z : Int32) (h' : am_H), r = (.inl (some (.int z)), h', 0, 0) ∧ ab_sl h' (u 39) 0 = ab_sl h (u 39) 0 ∧ ((¬ (j_in z1 (Int32.ofNat 6) ∧ j_in z2 4) ∧ ab_sl h' (u 40) 0 = some (.int 1)) ∨ (∃ n l, n < 6 ∧ l < 4 ∧ z1 = Int32.ofNat n ∧ z2 = Int32.ofNat l ∧ ab_sl h' (u 40) 0 = some (.int 0) ∧ z = Int32.ofNat (r_d w n l))) := by
  obtain ⟨⟨⟨nf, c23⟩, f5, f6⟩, c24, c25, sN, sT⟩ := id hR
  have e40 : rv_C h (u 40) 9 nf := by rw [← hcu.2.2.2.2.2.2.1]; exact c23
  have eu : u 40 = c 23 := hcu.2.2.2.2.2.2.1.symm
  have hr := iw_st wk_q88 (show wk_at wk_m88 0 3 0 1 0 0 = true by decide +kernel) hr rfl
  have hr := iw_st wk_q88 (show wk_at wk_m88 1 2 1 1 0 0 = true by decide +kernel) hr rfl
  have hr := iw_st wk_q88 (show wk_at wk_m88 2 1 49 2 0 0 = true by decide +kernel) hr rfl
  obtain ⟨r1, hr1, hcr1⟩ := iw_is (as := [.int z1, .int (Int32.ofNat (49 / 8))]) (r := [.ref (u 40)]) wk_q88 (show wk_at wk_m88 4 40 113 2 0 0 = true by decide +kernel) rfl rfl (Nat.le_of_ble_eq_true rfl) (mj := am_m113) rfl hr
  have q1 := Rd_det (jm_out (a := z1) (b := Int32.ofNat (49 / 8)) (Q := fun r => (j_in z1 (Int32.ofNat (49 / 8)) ∧ r = (.inl (some (.int 0)), h, 0, 0)) ∨ (¬ j_in z1 (Int32.ofNat (49 / 8)) ∧ r = (.inl (some (.int 1)), h, 0, 0))) (fun e => Or.inl ⟨e, rfl⟩) (fun e => Or.inr ⟨e, rfl⟩)) hr1
  obtain ⟨w1, g1, k1, p1, er1, hr⟩ := iv_C_ret rfl hcr1
  have hf : (¬ (j_in z1 (Int32.ofNat 6) ∧ j_in z2 4) ∧ Rd am_m88 (23, [some (.ref (u 40)), some (.int z1), some (.int z2)], [.int (Int32.ofNat (9 / 8)), .ref (u 40)], h, 0, 0) r) ∨ (j_in z1 (Int32.ofNat 6) ∧ j_in z2 4 ∧ Rd am_m88 (23, [some (.ref (u 40)), some (.int z1), some (.int z2)], [.int (Int32.ofNat (1 / 8)), .ref (u 40)], h, 0, 0) r) := by
    have e6 : Int32.ofNat (49 / 8) = Int32.ofNat 6 := by decide
    rw [e6] at q1
    rcases q1 with ⟨hin, rfl⟩ | ⟨hin, rfl⟩
    rotate_left
    · cases er1
      have hr := iw_ift wk_q88 (show wk_at wk_m88 7 22 1 18 0 0 = true by decide +kernel) (by decide) hr
      have hr := iw_st wk_q88 (show wk_at wk_m88 18 1 9 1 0 0 = true by decide +kernel) hr rfl
      have hr := iw_st wk_q88 (show wk_at wk_m88 19 21 23 0 0 0 = true by decide +kernel) hr rfl
      exact Or.inl ⟨fun e => hin e.1, hr⟩
    cases er1
    have hr := iw_iff wk_q88 (show wk_at wk_m88 7 22 1 18 0 0 = true by decide +kernel) (by decide) hr
    have hr := iw_st wk_q88 (show wk_at wk_m88 10 2 2 1 0 0 = true by decide +kernel) hr rfl
    have hr := iw_st wk_q88 (show wk_at wk_m88 11 1 33 1 0 0 = true by decide +kernel) hr rfl
    obtain ⟨r2, hr2, hcr2⟩ := iw_is (as := [.int z2, .int (Int32.ofNat (33 / 8))]) (r := [.ref (u 40)]) wk_q88 (show wk_at wk_m88 12 40 113 2 0 0 = true by decide +kernel) rfl rfl (Nat.le_of_ble_eq_true rfl) (mj := am_m113) rfl hr
    have q2 := Rd_det (jm_out (a := z2) (b := Int32.ofNat (33 / 8)) (Q := fun r => (j_in z2 (Int32.ofNat (33 / 8)) ∧ r = (.inl (some (.int 0)), h, 0, 0)) ∨ (¬ j_in z2 (Int32.ofNat (33 / 8)) ∧ r = (.inl (some (.int 1)), h, 0, 0))) (fun e => Or.inl ⟨e, rfl⟩) (fun e => Or.inr ⟨e, rfl⟩)) hr2
    obtain ⟨w2, g2, k2, p2, er2, hr⟩ := iv_C_ret rfl hcr2
    have e4 : Int32.ofNat (33 / 8) = 4 := by decide
    rw [e4] at q2
    rcases q2 with ⟨hlf, rfl⟩ | ⟨hlf, rfl⟩
    rotate_left
    · cases er2
      have hr := iw_iff wk_q88 (show wk_at wk_m88 15 22 0 22 0 0 = true by decide +kernel) (by decide) hr
      have hr := iw_st wk_q88 (show wk_at wk_m88 18 1 9 1 0 0 = true by decide +kernel) hr rfl
      have hr := iw_st wk_q88 (show wk_at wk_m88 19 21 23 0 0 0 = true by decide +kernel) hr rfl
      exact Or.inl ⟨fun e => hlf e.2, hr⟩
    cases er2
    have hr := iw_ift wk_q88 (show wk_at wk_m88 15 22 0 22 0 0 = true by decide +kernel) (by decide) hr
    have hr := iw_st wk_q88 (show wk_at wk_m88 22 1 1 1 0 0 = true by decide +kernel) hr rfl
    exact Or.inr ⟨hin, hlf, hr⟩
  rcases hf with ⟨hno, hr⟩ | ⟨hin, hlf, hr⟩
  · have hr := iw_st wk_q88 (show wk_at wk_m88 23 1 1 1 0 0 = true by decide +kernel) hr rfl
    obtain ⟨x1, hx1, hcx1⟩ := rw_iv (as := [.int (Int32.ofNat (9 / 8)), .int (Int32.ofNat (1 / 8))]) (r := []) wk_q88 (show wk_at wk_m88 24 40 125 2 2 9 = true by decide +kernel) e40 rfl rfl (Nat.le_of_ble_eq_true rfl) (mj := am_m125) rfl hr
    obtain ⟨h1, rfl, hJ1, kp, ht, h39⟩ := Rd_det (j_thr (a := Int32.ofNat (9 / 8)) (b := Int32.ofNat (1 / 8)) (Q := fun r => ∃ h', r = (.inl (some (.int (if (Int32.ofNat (9 / 8)) = 0 ∧ (Int32.ofNat (1 / 8)) = 0 then 0 else 1))), h', 0, 0) ∧ j_J τ u mc Tc Tm h' ∧ k_P τ h h' ∧ ab_sl h' (u 40) 0 = some (.int (jm_tv (Int32.ofNat (9 / 8)) (Int32.ofNat (1 / 8)))) ∧ ab_sl h' (u 39) 0 = ab_sl h (u 39) 0) hmc hU hut hJ (fun h' hJ' hl _ hs ht => ⟨h', rfl, hJ', k_ne hut (κ := 40) (by decide +kernel) (by decide +kernel) (fun a i ha => hs a i (fun e => absurd e ha)), ht, hs _ _ (fun e => absurd e (md_ud hut 39 40 (by decide +kernel) (by decide +kernel) (by decide)))⟩)) hx1
    obtain ⟨_, _, _, _, ex1, hr⟩ := iv_C_ret rfl hcx1
    cases ex1
    have hr := iw_iff wk_q88 (show wk_at wk_m88 27 22 0 34 0 0 = true by decide +kernel) (by decide) hr
    have hr := iw_st wk_q88 (show wk_at wk_m88 30 1 1 1 0 0 = true by decide +kernel) hr rfl
    have hr := iw_st wk_q88 (show wk_at wk_m88 31 21 40 0 0 0 = true by decide +kernel) hr rfl
    exact ⟨_, _, iw_en wk_q88 (show wk_at wk_m88 40 44 0 0 0 0 = true by decide +kernel) hr rfl, h39, Or.inl ⟨hno, by rw [ht]; rfl⟩⟩
  · obtain ⟨n, hn, rfl⟩ := r_in (n := 6) (by decide) rfl hin
    obtain ⟨l, hl, rfl⟩ := r_in (n := 4) (by decide) rfl hlf
    have hr := iw_st wk_q88 (show wk_at wk_m88 23 1 1 1 0 0 = true by decide +kernel) hr rfl
    obtain ⟨x1, hx1, hcx1⟩ := rw_iv (as := [.int (Int32.ofNat (1 / 8)), .int (Int32.ofNat (1 / 8))]) (r := []) wk_q88 (show wk_at wk_m88 24 40 125 2 2 9 = true by decide +kernel) e40 rfl rfl (Nat.le_of_ble_eq_true rfl) (mj := am_m125) rfl hr
    obtain ⟨h1, rfl, hJ1, kp, ht, h39⟩ := Rd_det (j_thr (a := Int32.ofNat (1 / 8)) (b := Int32.ofNat (1 / 8)) (Q := fun r => ∃ h', r = (.inl (some (.int (if (Int32.ofNat (1 / 8)) = 0 ∧ (Int32.ofNat (1 / 8)) = 0 then 0 else 1))), h', 0, 0) ∧ j_J τ u mc Tc Tm h' ∧ k_P τ h h' ∧ ab_sl h' (u 40) 0 = some (.int (jm_tv (Int32.ofNat (1 / 8)) (Int32.ofNat (1 / 8)))) ∧ ab_sl h' (u 39) 0 = ab_sl h (u 39) 0) hmc hU hut hJ (fun h' hJ' hl _ hs ht => ⟨h', rfl, hJ', k_ne hut (κ := 40) (by decide +kernel) (by decide +kernel) (fun a i ha => hs a i (fun e => absurd e ha)), ht, hs _ _ (fun e => absurd e (md_ud hut 39 40 (by decide +kernel) (by decide +kernel) (by decide)))⟩)) hx1
    obtain ⟨_, _, _, _, ex1, hr⟩ := iv_C_ret rfl hcx1
    cases ex1
    have hr := iw_ift wk_q88 (show wk_at wk_m88 27 22 0 34 0 0 = true by decide +kernel) (by decide) hr
    have hr := iw_st wk_q88 (show wk_at wk_m88 34 3 0 1 0 0 = true by decide +kernel) hr rfl
    have hr := iw_st wk_q88 (show wk_at wk_m88 35 2 1 1 0 0 = true by decide +kernel) hr rfl
    have hr := iw_st wk_q88 (show wk_at wk_m88 36 2 2 1 0 0 = true by decide +kernel) hr rfl
    have hR1 := rr_kP hut hU hut hcu hJ1.1 (k_r kp) hR
    obtain ⟨⟨⟨nf1, c231⟩, -⟩, -⟩ := id hR1
    rw [eu] at hr
    obtain ⟨x2, hx2, hcx2⟩ := rw_iv (as := [.int (Int32.ofNat n), .int (Int32.ofNat l)]) (r := []) wk_q88 (show wk_at wk_m88 37 40 89 2 2 9 = true by decide +kernel) c231 rfl rfl (Nat.le_of_ble_eq_true rfl) (mj := am_m89) rfl hr
    have hqx2 := r_dist h16 h01 hdd hR1 hn hl hx2
    subst hqx2
    obtain ⟨_, _, _, _, ex2, hr⟩ := iv_C_ret rfl hcx2
    cases ex2
    exact ⟨_, _, iw_en wk_q88 (show wk_at wk_m88 40 44 0 0 0 0 = true by decide +kernel) hr rfl, h39, Or.inr ⟨n, l, hn, hl, rfl, rfl, by rw [ht]; rfl, rfl⟩⟩
theorem r_hon {B n : Nat} {zk : Int32} (hz : ¬ 2147483648 ≤ ab_b zk) : ∀ d k b, b + d ≤ 10 → r_ho B n zk d k b = none
  | 0, _, _, _ => rfl
  | d + 1, k, b, hb => by
    unfold r_ho
    have ne : ¬ Int32.ofNat b = zk := fun e => hz (by rw [← e, r_b (by omega)]; omega)
    rw [if_neg ne]
    split
    · exact r_hon hz d (k + 1) (b + 1) (by omega)
    · exact r_hon hz d (k + 1) b (by omega)
set_option maxRecDepth 100000 in
theorem r_mhop {τ u c : Nat → Nat} {mc Tc Tm : Nat} (hmc : mc < 9) (hU : ab_U w_uq τ u) (hut : ∀ k, w_uq k = true → τ (u k) = k) {h : am_H} (hJ : j_J τ u mc Tc Tm h) (hcu : r_cu c u) {w : Nat → Nat → Nat → Nat} {dn : Nat → Nat} (h16 : r_16 w) (h01 : r_01 dn) (hdd : r_dd w dn) (hR : rr_I c w dn h) {z1 z2 zk : Int32} {r : am_R} (hr : Rd am_m99 (0, [some (.ref (u 40)), some (.int z1), some (.int z2), some (.int zk), none, none], [], h, 0, 0) r) : ∃ (z : Int32) (h' : am_H), r = (.inl (some (.int z)), h', 0, 0) ∧ ab_sl h' (u 39) 0 = ab_sl h (u 39) 0 ∧ ((¬ (j_in z1 (Int32.ofNat 6) ∧ j_in z2 4) ∧ ab_sl h' (u 40) 0 = some (.int 1)) ∨ (∃ n l, n < 6 ∧ l < 4 ∧ z1 = Int32.ofNat n ∧ z2 = Int32.ofNat l ∧ ((r_ha (r_h w n l) zk 6 0 0 = none ∧ ab_sl h' (u 40) 0 = some (.int 2)) ∨ (∃ j, r_ha (r_h w n l) zk 6 0 0 = some j ∧ ab_sl h' (u 40) 0 = some (.int 0) ∧ z = Int32.ofNat j)))) := by
  obtain ⟨⟨⟨nf, c23⟩, f5, f6⟩, c24, c25, sN, sT⟩ := id hR
  have e40 : rv_C h (u 40) 9 nf := by rw [← hcu.2.2.2.2.2.2.1]; exact c23
  have eu : u 40 = c 23 := hcu.2.2.2.2.2.2.1.symm
  have hr := iw_st wk_q99 (show wk_at wk_m99 0 2 1 1 0 0 = true by decide +kernel) hr rfl
  have hr := iw_st wk_q99 (show wk_at wk_m99 1 1 49 2 0 0 = true by decide +kernel) hr rfl
  obtain ⟨r1, hr1, hcr1⟩ := iw_is (as := [.int z1, .int (Int32.ofNat (49 / 8))]) (r := []) wk_q99 (show wk_at wk_m99 3 40 113 2 0 0 = true by decide +kernel) rfl rfl (Nat.le_of_ble_eq_true rfl) (mj := am_m113) rfl hr
  have q1 := Rd_det (jm_out (a := z1) (b := Int32.ofNat (49 / 8)) (Q := fun r => (j_in z1 (Int32.ofNat (49 / 8)) ∧ r = (.inl (some (.int 0)), h, 0, 0)) ∨ (¬ j_in z1 (Int32.ofNat (49 / 8)) ∧ r = (.inl (some (.int 1)), h, 0, 0))) (fun e => Or.inl ⟨e, rfl⟩) (fun e => Or.inr ⟨e, rfl⟩)) hr1
  obtain ⟨w1, g1, k1, p1, er1, hr⟩ := iv_C_ret rfl hcr1
  have hf : (¬ (j_in z1 (Int32.ofNat 6) ∧ j_in z2 4) ∧ Rd am_m99 (22, [some (.ref (u 40)), some (.int z1), some (.int z2), some (.int zk), none, none], [.int (Int32.ofNat (9 / 8))], h, 0, 0) r) ∨ (j_in z1 (Int32.ofNat 6) ∧ j_in z2 4 ∧ Rd am_m99 (22, [some (.ref (u 40)), some (.int z1), some (.int z2), some (.int zk), none, none], [.int (Int32.ofNat (1 / 8))], h, 0, 0) r) := by
    have e6 : Int32.ofNat (49 / 8) = Int32.ofNat 6 := by decide
    rw [e6] at q1
    rcases q1 with ⟨hin, rfl⟩ | ⟨hin, rfl⟩
    rotate_left
    · cases er1
      have hr := iw_ift wk_q99 (show wk_at wk_m99 6 22 1 17 0 0 = true by decide +kernel) (by decide) hr
      have hr := iw_st wk_q99 (show wk_at wk_m99 17 1 9 1 0 0 = true by decide +kernel) hr rfl
      have hr := iw_st wk_q99 (show wk_at wk_m99 18 21 22 0 0 0 = true by decide +kernel) hr rfl
      exact Or.inl ⟨fun e => hin e.1, hr⟩
    cases er1
    have hr := iw_iff wk_q99 (show wk_at wk_m99 6 22 1 17 0 0 = true by decide +kernel) (by decide) hr
    have hr := iw_st wk_q99 (show wk_at wk_m99 9 2 2 1 0 0 = true by decide +kernel) hr rfl
    have hr := iw_st wk_q99 (show wk_at wk_m99 10 1 33 1 0 0 = true by decide +kernel) hr rfl
    obtain ⟨r2, hr2, hcr2⟩ := iw_is (as := [.int z2, .int (Int32.ofNat (33 / 8))]) (r := []) wk_q99 (show wk_at wk_m99 11 40 113 2 0 0 = true by decide +kernel) rfl rfl (Nat.le_of_ble_eq_true rfl) (mj := am_m113) rfl hr
    have q2 := Rd_det (jm_out (a := z2) (b := Int32.ofNat (33 / 8)) (Q := fun r => (j_in z2 (Int32.ofNat (33 / 8)) ∧ r = (.inl (some (.int 0)), h, 0, 0)) ∨ (¬ j_in z2 (Int32.ofNat (33 / 8)) ∧ r = (.inl (some (.int 1)), h, 0, 0))) (fun e => Or.inl ⟨e, rfl⟩) (fun e => Or.inr ⟨e, rfl⟩)) hr2
    obtain ⟨w2, g2, k2, p2, er2, hr⟩ := iv_C_ret rfl hcr2
    have e4 : Int32.ofNat (33 / 8) = 4 := by decide
    rw [e4] at q2
    rcases q2 with ⟨hlf, rfl⟩ | ⟨hlf, rfl⟩
    rotate_left
    · cases er2
      have hr := iw_iff wk_q99 (show wk_at wk_m99 14 22 0 21 0 0 = true by decide +kernel) (by decide) hr
      have hr := iw_st wk_q99 (show wk_at wk_m99 17 1 9 1 0 0 = true by decide +kernel) hr rfl
      have hr := iw_st wk_q99 (show wk_at wk_m99 18 21 22 0 0 0 = true by decide +kernel) hr rfl
      exact Or.inl ⟨fun e => hlf e.2, hr⟩
    cases er2
    have hr := iw_ift wk_q99 (show wk_at wk_m99 14 22 0 21 0 0 = true by decide +kernel) (by decide) hr
    have hr := iw_st wk_q99 (show wk_at wk_m99 21 1 1 1 0 0 = true by decide +kernel) hr rfl
    exact Or.inr ⟨hin, hlf, hr⟩
  have cm : Int32.ofNat (34359738361 / 8) = -1 := by decide
  rcases hf with ⟨hno, hr⟩ | ⟨hin, hlf, hr⟩
  · have hr := iw_st wk_q99 (show wk_at wk_m99 22 4 4 2 0 0 = true by decide +kernel) hr rfl
    have hr := iw_st wk_q99 (show wk_at wk_m99 24 2 4 2 0 0 = true by decide +kernel) hr rfl
    have hr := iw_ift wk_q99 (show wk_at wk_m99 26 22 1 33 0 0 = true by decide +kernel) (by decide) hr
    have hr := iw_st wk_q99 (show wk_at wk_m99 33 1 34359738361 1 0 0 = true by decide +kernel) hr rfl
    have hr := iw_st wk_q99 (show wk_at wk_m99 34 21 44 0 0 0 = true by decide +kernel) hr rfl
    have hr := iw_st wk_q99 (show wk_at wk_m99 44 4 5 2 0 0 = true by decide +kernel) hr rfl
    have hr := iw_st wk_q99 (show wk_at wk_m99 46 3 0 1 0 0 = true by decide +kernel) hr rfl
    have hr := iw_st wk_q99 (show wk_at wk_m99 47 2 4 2 0 0 = true by decide +kernel) hr rfl
    have hr := iw_st wk_q99 (show wk_at wk_m99 49 2 5 2 0 0 = true by decide +kernel) hr rfl
    have hr := iw_iff wk_q99 (show wk_at wk_m99 51 22 3 58 0 0 = true by decide +kernel) (by decide) hr
    have hr := iw_st wk_q99 (show wk_at wk_m99 54 1 9 1 0 0 = true by decide +kernel) hr rfl
    have hr := iw_st wk_q99 (show wk_at wk_m99 55 21 59 0 0 0 = true by decide +kernel) hr rfl
    obtain ⟨x1, hx1, hcx1⟩ := rw_iv (as := [.int (Int32.ofNat (9 / 8)), .int (Int32.ofNat (9 / 8))]) (r := []) wk_q99 (show wk_at wk_m99 59 40 125 2 2 9 = true by decide +kernel) e40 rfl rfl (Nat.le_of_ble_eq_true rfl) (mj := am_m125) rfl hr
    obtain ⟨h1, rfl, hJ1, kp, ht, h39⟩ := Rd_det (j_thr (a := Int32.ofNat (9 / 8)) (b := Int32.ofNat (9 / 8)) (Q := fun r => ∃ h', r = (.inl (some (.int (if (Int32.ofNat (9 / 8)) = 0 ∧ (Int32.ofNat (9 / 8)) = 0 then 0 else 1))), h', 0, 0) ∧ j_J τ u mc Tc Tm h' ∧ k_P τ h h' ∧ ab_sl h' (u 40) 0 = some (.int (jm_tv (Int32.ofNat (9 / 8)) (Int32.ofNat (9 / 8)))) ∧ ab_sl h' (u 39) 0 = ab_sl h (u 39) 0) hmc hU hut hJ (fun h' hJ' hl _ hs ht => ⟨h', rfl, hJ', k_ne hut (κ := 40) (by decide +kernel) (by decide +kernel) (fun a i ha => hs a i (fun e => absurd e ha)), ht, hs _ _ (fun e => absurd e (md_ud hut 39 40 (by decide +kernel) (by decide +kernel) (by decide)))⟩)) hx1
    obtain ⟨_, _, _, _, ex1, hr⟩ := iv_C_ret rfl hcx1
    cases ex1
    have hr := iw_iff wk_q99 (show wk_at wk_m99 62 22 0 69 0 0 = true by decide +kernel) (by decide) hr
    have hr := iw_st wk_q99 (show wk_at wk_m99 65 1 1 1 0 0 = true by decide +kernel) hr rfl
    have hr := iw_st wk_q99 (show wk_at wk_m99 66 21 75 0 0 0 = true by decide +kernel) hr rfl
    exact ⟨_, _, iw_en wk_q99 (show wk_at wk_m99 75 44 0 0 0 0 = true by decide +kernel) hr rfl, h39, Or.inl ⟨hno, by rw [ht]; rfl⟩⟩
  obtain ⟨n, hn, rfl⟩ := r_in (n := 6) (by decide) rfl hin
  obtain ⟨l, hl, rfl⟩ := r_in (n := 4) (by decide) rfl hlf
  have hr := iw_st wk_q99 (show wk_at wk_m99 22 4 4 2 0 0 = true by decide +kernel) hr rfl
  have hr := iw_st wk_q99 (show wk_at wk_m99 24 2 4 2 0 0 = true by decide +kernel) hr rfl
  have hr := iw_iff wk_q99 (show wk_at wk_m99 26 22 1 33 0 0 = true by decide +kernel) (by decide) hr
  have hr := iw_st wk_q99 (show wk_at wk_m99 29 2 3 1 0 0 = true by decide +kernel) hr rfl
  by_cases hzk : 2147483648 ≤ ab_b zk
  rotate_left
  · have hr := iw_iff wk_q99 (show wk_at wk_m99 30 22 3 37 0 0 = true by decide +kernel) (by show decide ((0 : Int32) ≤ zk) = false; exact decide_eq_false (fun z => hzk (by have := ab_b_lei.mp z; rw [ab_b_0] at this; exact this))) hr
    have hr := iw_st wk_q99 (show wk_at wk_m99 33 1 34359738361 1 0 0 = true by decide +kernel) hr rfl
    have hr := iw_st wk_q99 (show wk_at wk_m99 34 21 44 0 0 0 = true by decide +kernel) hr rfl
    have hr := iw_st wk_q99 (show wk_at wk_m99 44 4 5 2 0 0 = true by decide +kernel) hr rfl
    have hr := iw_st wk_q99 (show wk_at wk_m99 46 3 0 1 0 0 = true by decide +kernel) hr rfl
    have hr := iw_st wk_q99 (show wk_at wk_m99 47 2 4 2 0 0 = true by decide +kernel) hr rfl
    have hr := iw_st wk_q99 (show wk_at wk_m99 49 2 5 2 0 0 = true by decide +kernel) hr rfl
    have hr := iw_iff wk_q99 (show wk_at wk_m99 51 22 3 58 0 0 = true by decide +kernel) (by decide) hr
    have hr := iw_st wk_q99 (show wk_at wk_m99 54 1 9 1 0 0 = true by decide +kernel) hr rfl
    have hr := iw_st wk_q99 (show wk_at wk_m99 55 21 59 0 0 0 = true by decide +kernel) hr rfl
    obtain ⟨x1, hx1, hcx1⟩ := rw_iv (as := [.int (Int32.ofNat (1 / 8)), .int (Int32.ofNat (9 / 8))]) (r := []) wk_q99 (show wk_at wk_m99 59 40 125 2 2 9 = true by decide +kernel) e40 rfl rfl (Nat.le_of_ble_eq_true rfl) (mj := am_m125) rfl hr
    obtain ⟨h1, rfl, hJ1, kp, ht, h39⟩ := Rd_det (j_thr (a := Int32.ofNat (1 / 8)) (b := Int32.ofNat (9 / 8)) (Q := fun r => ∃ h', r = (.inl (some (.int (if (Int32.ofNat (1 / 8)) = 0 ∧ (Int32.ofNat (9 / 8)) = 0 then 0 else 1))), h', 0, 0) ∧ j_J τ u mc Tc Tm h' ∧ k_P τ h h' ∧ ab_sl h' (u 40) 0 = some (.int (jm_tv (Int32.ofNat (1 / 8)) (Int32.ofNat (9 / 8)))) ∧ ab_sl h' (u 39) 0 = ab_sl h (u 39) 0) hmc hU hut hJ (fun h' hJ' hl _ hs ht => ⟨h', rfl, hJ', k_ne hut (κ := 40) (by decide +kernel) (by decide +kernel) (fun a i ha => hs a i (fun e => absurd e ha)), ht, hs _ _ (fun e => absurd e (md_ud hut 39 40 (by decide +kernel) (by decide +kernel) (by decide)))⟩)) hx1
    obtain ⟨_, _, _, _, ex1, hr⟩ := iv_C_ret rfl hcx1
    cases ex1
    have hr := iw_iff wk_q99 (show wk_at wk_m99 62 22 0 69 0 0 = true by decide +kernel) (by decide) hr
    have hr := iw_st wk_q99 (show wk_at wk_m99 65 1 1 1 0 0 = true by decide +kernel) hr rfl
    have hr := iw_st wk_q99 (show wk_at wk_m99 66 21 75 0 0 0 = true by decide +kernel) hr rfl
    exact ⟨_, _, iw_en wk_q99 (show wk_at wk_m99 75 44 0 0 0 0 = true by decide +kernel) hr rfl, h39, Or.inr ⟨n, l, hn, hl, rfl, rfl, Or.inl ⟨by rw [r_hah w hn, r_hon hzk _ _ _ (by have := r_ct4 n; omega)]; rfl, by rw [ht]; rfl⟩⟩⟩
  have hr := iw_ift wk_q99 (show wk_at wk_m99 30 22 3 37 0 0 = true by decide +kernel) (by show decide ((0 : Int32) ≤ zk) = true; exact decide_eq_true (ab_b_lei.mpr (by rw [ab_b_0]; exact hzk))) hr
  have hr := iw_st wk_q99 (show wk_at wk_m99 37 3 0 1 0 0 = true by decide +kernel) hr rfl
  have hr := iw_st wk_q99 (show wk_at wk_m99 38 2 1 1 0 0 = true by decide +kernel) hr rfl
  have hr := iw_st wk_q99 (show wk_at wk_m99 39 2 2 1 0 0 = true by decide +kernel) hr rfl
  have hr := iw_st wk_q99 (show wk_at wk_m99 40 2 3 1 0 0 = true by decide +kernel) hr rfl
  have hr : Rd am_m99 (41, [some (.ref (u 40)), some (.int (Int32.ofNat n)), some (.int (Int32.ofNat l)), some (.int zk), some (.int (Int32.ofNat (1 / 8))), none], [.int zk, .int (Int32.ofNat l), .int (Int32.ofNat n), .ref (u 40)], h, 0, 0) r := hr
  obtain ⟨x2, hx2, hcx2⟩ := rw_iv (as := [.int (Int32.ofNat n), .int (Int32.ofNat l), .int zk]) (r := []) wk_q99 (show wk_at wk_m99 41 40 100 3 2 9 = true by decide +kernel) e40 rfl rfl (Nat.le_of_ble_eq_true rfl) (mj := am_m100) rfl hr
  rw [eu] at hx2
  have hqx2 := r_hof h16 h01 hdd hR hn hl hzk hx2
  subst hqx2
  obtain ⟨_, _, _, _, ex2, hr⟩ := iv_C_ret rfl hcx2
  cases ex2
  have hha := r_hah w (l := l) hn (zk := zk)
  cases hk : r_ho (r_h w n l) n zk (r_ct n) 0 0 with
  | none =>
    rw [hk] at hr hha
    have hr := iw_st wk_q99 (show wk_at wk_m99 44 4 5 2 0 0 = true by decide +kernel) hr rfl
    have hr := iw_st wk_q99 (show wk_at wk_m99 46 3 0 1 0 0 = true by decide +kernel) hr rfl
    have hr := iw_st wk_q99 (show wk_at wk_m99 47 2 4 2 0 0 = true by decide +kernel) hr rfl
    have hr := iw_st wk_q99 (show wk_at wk_m99 49 2 5 2 0 0 = true by decide +kernel) hr rfl
    have hr := iw_iff wk_q99 (show wk_at wk_m99 51 22 3 58 0 0 = true by decide +kernel) (by decide) hr
    have hr := iw_st wk_q99 (show wk_at wk_m99 54 1 9 1 0 0 = true by decide +kernel) hr rfl
    have hr := iw_st wk_q99 (show wk_at wk_m99 55 21 59 0 0 0 = true by decide +kernel) hr rfl
    obtain ⟨x1, hx1, hcx1⟩ := rw_iv (as := [.int (Int32.ofNat (1 / 8)), .int (Int32.ofNat (9 / 8))]) (r := []) wk_q99 (show wk_at wk_m99 59 40 125 2 2 9 = true by decide +kernel) e40 rfl rfl (Nat.le_of_ble_eq_true rfl) (mj := am_m125) rfl hr
    obtain ⟨h1, rfl, hJ1, kp, ht, h39⟩ := Rd_det (j_thr (a := Int32.ofNat (1 / 8)) (b := Int32.ofNat (9 / 8)) (Q := fun r => ∃ h', r = (.inl (some (.int (if (Int32.ofNat (1 / 8)) = 0 ∧ (Int32.ofNat (9 / 8)) = 0 then 0 else 1))), h', 0, 0) ∧ j_J τ u mc Tc Tm h' ∧ k_P τ h h' ∧ ab_sl h' (u 40) 0 = some (.int (jm_tv (Int32.ofNat (1 / 8)) (Int32.ofNat (9 / 8)))) ∧ ab_sl h' (u 39) 0 = ab_sl h (u 39) 0) hmc hU hut hJ (fun h' hJ' hl _ hs ht => ⟨h', rfl, hJ', k_ne hut (κ := 40) (by decide +kernel) (by decide +kernel) (fun a i ha => hs a i (fun e => absurd e ha)), ht, hs _ _ (fun e => absurd e (md_ud hut 39 40 (by decide +kernel) (by decide +kernel) (by decide)))⟩)) hx1
    obtain ⟨_, _, _, _, ex1, hr⟩ := iv_C_ret rfl hcx1
    cases ex1
    have hr := iw_iff wk_q99 (show wk_at wk_m99 62 22 0 69 0 0 = true by decide +kernel) (by decide) hr
    have hr := iw_st wk_q99 (show wk_at wk_m99 65 1 1 1 0 0 = true by decide +kernel) hr rfl
    have hr := iw_st wk_q99 (show wk_at wk_m99 66 21 75 0 0 0 = true by decide +kernel) hr rfl
    exact ⟨_, _, iw_en wk_q99 (show wk_at wk_m99 75 44 0 0 0 0 = true by decide +kernel) hr rfl, h39, Or.inr ⟨n, l, hn, hl, rfl, rfl, Or.inl ⟨hha, by rw [ht]; rfl⟩⟩⟩
  | some k =>
    rw [hk] at hr hha
    have hk6 := r_ho6' _ _ _ _ hk
    have hk4 := r_ct4 n
    have hr := iw_st wk_q99 (show wk_at wk_m99 44 4 5 2 0 0 = true by decide +kernel) hr rfl
    have hr := iw_st wk_q99 (show wk_at wk_m99 46 3 0 1 0 0 = true by decide +kernel) hr rfl
    have hr := iw_st wk_q99 (show wk_at wk_m99 47 2 4 2 0 0 = true by decide +kernel) hr rfl
    have hr := iw_st wk_q99 (show wk_at wk_m99 49 2 5 2 0 0 = true by decide +kernel) hr rfl
    have hr := iw_ift wk_q99 (show wk_at wk_m99 51 22 3 58 0 0 = true by decide +kernel) (by show decide ((0 : Int32) ≤ Int32.ofNat k) = true; exact decide_eq_true (ab_b_lei.mpr (by rw [ab_b_0, r_b (by omega)]; omega))) hr
    have hr := iw_st wk_q99 (show wk_at wk_m99 58 1 1 1 0 0 = true by decide +kernel) hr rfl
    obtain ⟨x1, hx1, hcx1⟩ := rw_iv (as := [.int (Int32.ofNat (1 / 8)), .int (Int32.ofNat (1 / 8))]) (r := []) wk_q99 (show wk_at wk_m99 59 40 125 2 2 9 = true by decide +kernel) e40 rfl rfl (Nat.le_of_ble_eq_true rfl) (mj := am_m125) rfl hr
    obtain ⟨h1, rfl, hJ1, kp, ht, h39⟩ := Rd_det (j_thr (a := Int32.ofNat (1 / 8)) (b := Int32.ofNat (1 / 8)) (Q := fun r => ∃ h', r = (.inl (some (.int (if (Int32.ofNat (1 / 8)) = 0 ∧ (Int32.ofNat (1 / 8)) = 0 then 0 else 1))), h', 0, 0) ∧ j_J τ u mc Tc Tm h' ∧ k_P τ h h' ∧ ab_sl h' (u 40) 0 = some (.int (jm_tv (Int32.ofNat (1 / 8)) (Int32.ofNat (1 / 8)))) ∧ ab_sl h' (u 39) 0 = ab_sl h (u 39) 0) hmc hU hut hJ (fun h' hJ' hl _ hs ht => ⟨h', rfl, hJ', k_ne hut (κ := 40) (by decide +kernel) (by decide +kernel) (fun a i ha => hs a i (fun e => absurd e ha)), ht, hs _ _ (fun e => absurd e (md_ud hut 39 40 (by decide +kernel) (by decide +kernel) (by decide)))⟩)) hx1
    obtain ⟨_, _, _, _, ex1, hr⟩ := iv_C_ret rfl hcx1
    cases ex1
    have hr := iw_ift wk_q99 (show wk_at wk_m99 62 22 0 69 0 0 = true by decide +kernel) (by decide) hr
    have hr := iw_st wk_q99 (show wk_at wk_m99 69 2 1 1 0 0 = true by decide +kernel) hr rfl
    have hr := iw_st wk_q99 (show wk_at wk_m99 70 2 5 2 0 0 = true by decide +kernel) hr rfl
    obtain ⟨x3, hx3, hcx3⟩ := iw_is (as := [.int (Int32.ofNat n), .int (Int32.ofNat k)]) (r := []) wk_q99 (show wk_at wk_m99 72 40 111 2 0 0 = true by decide +kernel) rfl rfl (Nat.le_of_ble_eq_true rfl) (mj := am_m111) rfl hr
    have hqx3 := r_nei hn (by omega) hx3
    subst hqx3
    obtain ⟨_, _, _, _, ex3, hr⟩ := iv_C_ret rfl hcx3
    cases ex3
    exact ⟨_, _, iw_en wk_q99 (show wk_at wk_m99 75 44 0 0 0 0 = true by decide +kernel) hr rfl, h39, Or.inr ⟨n, l, hn, hl, rfl, rfl, Or.inr ⟨r_nk n k, hha, by rw [ht]; rfl, rfl⟩⟩⟩
