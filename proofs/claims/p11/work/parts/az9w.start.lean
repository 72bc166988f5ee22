/-! ===== link keeps the relation; the start ===== -/
theorem ii_lk {τ u c : Nat → Nat} {mc Tc Tm : Nat} {h h1 h2 : am_H} (hmc : mc < 9) (hU : ab_U w_uq τ u) (hut : ∀ k, w_uq k = true → τ (u k) = k) (hJ : j_J τ u mc Tc Tm h) (hJ1 : j_J τ u mc Tc Tm h1) (hJ2 : j_J τ u mc Tc Tm h2) {w : Nat → Nat → Nat → Nat} {dn : Nat → Nat} (hj : rc_j c) (hcu : r_cu c u) (h16 : r_16 w) (h01 : r_01 dn) (hdd : r_dd w dn) (hI : rc_I c w dn h) (hR : rr_I c w dn h) {z b x : Int32} (hc : (¬ j_in z (Int32.ofNat 8) ∧ x = 1 ∧ k_P τ h h1) ∨ (∃ i, i < 8 ∧ z = Int32.ofNat i ∧ ((¬ Int32.ofNat (dn i) = b ∧ x = 2 ∧ k_P τ h h1) ∨ (Int32.ofNat (dn i) = b ∧ x = 0 ∧ rc_I c (r_tu w i) (r_dt dn i (if b = 0 then 1 else 0)) h1 ∧ g_P k_R τ h h1)))) (hm : rr_I c w dn h1 → (¬ j_in z (Int32.ofNat 8) ∧ ab_sl h2 (u 40) 0 = some (.int 1) ∧ k_P τ h1 h2) ∨ (∃ i, i < 8 ∧ z = Int32.ofNat i ∧ ((¬ Int32.ofNat (dn i) = b ∧ ab_sl h2 (u 40) 0 = some (.int 2) ∧ k_P τ h1 h2) ∨ (Int32.ofNat (dn i) = b ∧ ab_sl h2 (u 40) 0 = some (.int 0) ∧ rr_I c (r_tu w i) (r_dt dn i (if b = 0 then 1 else 0)) h2 ∧ g_P k_C τ h1 h2)))) : ii_I u h2 := by
  have hin : ∀ i, i < 8 → z = Int32.ofNat i → j_in z (Int32.ofNat 8) := fun i hi e => by
    rw [e]
    refine ⟨by rw [r_b (by omega)]; omega, ?_⟩
    rw [r_b (by omega), r_b (by decide)]
    omega
  have same : k_P τ h h1 → k_P τ h1 h2 → ii_I u h2 := fun k1 k2 => ii_k hmc hmc hut hU hut hJ hJ2 (k_trans k1 k2) ⟨c, w, dn, hj, hcu, h16, h01, hdd, hI, hR⟩
  rcases hc with ⟨n1, -, k1⟩ | ⟨i, hi, ez, ⟨nd, -, k1⟩ | ⟨yd, -, hI1, k1⟩⟩
  · rcases hm (rr_kP hut hU hut hcu hJ1.1 (k_r k1) hR) with ⟨-, -, k2⟩ | ⟨i, hi, ez, -⟩
    · exact same k1 k2
    · exact absurd (hin i hi ez) n1
  · rcases hm (rr_kP hut hU hut hcu hJ1.1 (k_r k1) hR) with ⟨n1, -⟩ | ⟨i', hi', ez', ⟨-, -, k2⟩ | ⟨yd, -⟩⟩
    · exact absurd (hin i hi ez) n1
    · exact same k1 k2
    · obtain rfl : i' = i := r_inj (by omega) (by omega) (by rw [← ez', ez])
      exact absurd yd nd
  · rcases hm (rr_kP hut hU hut hcu hJ1.1 k1 hR) with ⟨n1, -⟩ | ⟨i', hi', ez', ⟨nd, -⟩ | ⟨-, -, hR2, k2⟩⟩
    · exact absurd (hin i hi ez) n1
    · obtain rfl : i' = i := r_inj (by omega) (by omega) (by rw [← ez', ez])
      exact absurd yd nd
    · obtain rfl : i' = i := r_inj (by omega) (by omega) (by rw [← ez', ez])
      exact ⟨c, r_tu w i', r_dt dn i' (if b = 0 then 1 else 0), hj, hcu, r_tu16 h16, r_dt01 h01 (by split; exact Or.inr rfl; exact Or.inl rfl), r_tud hi hdd, rc_kP hut hU hut hcu hJ1.1 hJ2.1 k2 hI1, hR2⟩
/-- the cells of the start -/
def s_c (i : Nat) : Nat := bif Nat.blt i 5 then s_u (bif Nat.beq i 0 then 7 else bif Nat.beq i 1 then 8 else bif Nat.beq i 2 then 9 else bif Nat.beq i 3 then 11 else 13) else bif Nat.blt i 11 then Nat.div (fm_g ev_MD (Nat.add (fm_of ev_TD (s_u 9)) (Nat.sub i 5))) 8 else bif Nat.blt i 17 then Nat.div (fm_g ev_MD (Nat.add (fm_of ev_TD (s_u 11)) (Nat.sub i 11))) 8 else bif Nat.blt i 23 then s_u (Nat.sub i 3) else s_u (Nat.add i 17)
theorem s_cj : rc_j s_c := fun i j hi hj => (by decide +kernel : ∀ i, i < 26 → ∀ j, j < 26 → s_c i = s_c j → i = j) i hi j hj
theorem s_cu : r_cu s_c s_u := ⟨rfl, rfl, rfl, rfl, rfl, (by decide +kernel : ∀ n, n < 6 → s_c (17 + n) = s_u (14 + n)), rfl, rfl, rfl⟩
/-- a slot with an int, with a cell -/
theorem s_iv {a i v : Nat} (h : (Nat.blt a 341 && (Nat.blt i (fm_ln ev_TD a) && Nat.beq (fm_g ev_MD (Nat.add (fm_of ev_TD a) i)) (Nat.add (Nat.mul 8 v) 1))) = true) : ab_sl s_h a i = some (.int (Int32.ofNat v)) := by
  obtain ⟨h1, h⟩ := ab_a2 h
  obtain ⟨h2, h3⟩ := ab_a2 h
  rw [s_sl (ab_blt h1) (ab_blt h2)]
  have e : fm_g ev_MD (fm_of ev_TD a + i) = 8 * v + 1 := ab_beq h3
  rw [fm_d1 (by rw [e]; omega), e, show (8 * v + 1) / 8 = v by omega]
theorem s_rf {a i y : Nat} (h : (Nat.blt a 341 && (Nat.blt i (fm_ln ev_TD a) && Nat.beq (fm_g ev_MD (Nat.add (fm_of ev_TD a) i)) (Nat.add (Nat.mul 8 y) 2))) = true) : ab_sl s_h a i = some (.ref y) := by
  obtain ⟨h1, h⟩ := ab_a2 h
  obtain ⟨h2, h3⟩ := ab_a2 h
  rw [s_sl (ab_blt h1) (ab_blt h2)]
  have e : fm_g ev_MD (fm_of ev_TD a + i) = 8 * y + 2 := ab_beq h3
  rw [fm_d2 (by rw [e]; omega), e, show 0 + (8 * y + 2) / 8 = y by omega]
def s_iq (a i v : Nat) : Bool := Nat.blt a 341 && (Nat.blt i (fm_ln ev_TD a) && Nat.beq (fm_g ev_MD (Nat.add (fm_of ev_TD a) i)) (Nat.add (Nat.mul 8 v) 1))
def s_rq (a i y : Nat) : Bool := Nat.blt a 341 && (Nat.blt i (fm_ln ev_TD a) && Nat.beq (fm_g ev_MD (Nat.add (fm_of ev_TD a) i)) (Nat.add (Nat.mul 8 y) 2))
theorem s_cW : s_rq (s_c 0) 0 (s_c 1) = true ∧ s_rq (s_c 0) 1 (s_c 2) = true ∧ s_rq (s_c 0) 2 (s_c 3) = true ∧ s_rq (s_c 0) 3 (s_c 4) = true ∧ s_rq (s_c 23) 5 (s_c 24) = true ∧ s_rq (s_c 23) 6 (s_c 25) = true := by decide +kernel
theorem s_cn : ∀ n, n < 6 → s_rq (s_c 2) n (s_c (5 + n)) = true ∧ s_rq (s_c 3) n (s_c (11 + n)) = true ∧ s_rq (s_c 4) n (s_c (17 + n)) = true ∧ s_tau (s_c (5 + n)) = 10 ∧ s_tau (s_c (11 + n)) = 12 ∧ w_kd (s_tau (s_c (17 + n))) = (100, 4) ∧ s_tau (s_c (17 + n)) ≠ 0 := by decide +kernel
theorem s_ct : ∀ n, n < 6 → ∀ j, j < 6 → ∀ l, l < 4 → s_iq (s_c (5 + n)) (j * 4 + l) 16 = true := by decide +kernel
theorem s_cd : ∀ n, n < 6 → ∀ l, l < 4 → s_iq (s_c (11 + n)) l (r_d (fun _ _ _ => 16) n l) = true ∧ s_iq (s_c (17 + n)) l (r_h (fun _ _ _ => 16) n l) = true := by decide +kernel
theorem s_cN : ∀ i, i < 8 → s_iq (s_c 1) i 0 = true ∧ s_iq (s_c 24) i 0 = true := by decide +kernel
theorem s_cT : ∀ i, i < 64 → s_iq (s_c 25) i 16 = true := by decide +kernel
theorem s_ck7 : s_tau (s_c 0) = 7 ∧ s_tau (s_c 1) = 8 ∧ s_tau (s_c 2) = 9 ∧ s_tau (s_c 3) = 11 ∧ s_tau (s_c 4) = 13 ∧ s_tau (s_c 23) = 40 ∧ s_tau (s_c 24) = 41 ∧ s_tau (s_c 25) = 42 := by decide +kernel
theorem ii_s : ii_I s_u s_h := by
  obtain ⟨k0, k1, k2, k3, k4, k23, k24, k25⟩ := s_ck7
  obtain ⟨w0, w1, w2, w3, w5, w6⟩ := s_cW
  refine ⟨s_c, fun _ _ _ => 16, fun _ => 0, s_cj, s_cu, fun _ _ _ => Nat.le_refl _, fun _ => Or.inl rfl, fun _ _ _ _ _ => rfl, ⟨⟨⟨rv_I s_I k0 (by decide), s_rf w0, s_rf w1, s_rf w2, s_rf w3⟩, ⟨rv_I s_I k1 (by decide), rv_I s_I k2 (by decide), rv_I s_I k3 (by decide), rv_I s_I k4 (by decide)⟩, fun n hn => ?_⟩, fun n j l hn hj hl => s_iv (s_ct n hn j hj l hl), fun n l hn hl => ⟨s_iv (s_cd n hn l hl).1, s_iv (s_cd n hn l hl).2⟩, fun i hi => s_iv (s_cN i hi).1⟩, ⟨⟨⟨_, rv_I s_I k23 (by decide)⟩, s_rf w5, s_rf w6⟩, rv_I s_I k24 (by decide), rv_I s_I k25 (by decide), fun i hi => s_iv (s_cN i hi).2, fun n m l hb hl => s_iv (s_cT _ (r_ixl hb hl))⟩⟩
  obtain ⟨q1, q2, q3, q4, q5, q6, q7⟩ := s_cn n hn
  have s17 := rv_I s_I (k := s_tau (s_c (17 + n))) rfl q7
  rw [q6] at s17
  exact ⟨⟨s_rf q1, rv_I s_I q4 (by decide)⟩, ⟨s_rf q2, rv_I s_I q5 (by decide)⟩, s_rf q3, s17⟩
