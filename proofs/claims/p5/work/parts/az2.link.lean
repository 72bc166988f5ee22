/-! ===== link by hand ===== -/
def kk_F (t i : Nat) : Bool := (Nat.beq t 0 && Nat.beq i 0) || (Nat.beq t 9 && Nat.beq i 0)
def kk_A (j : Nat) : Bool := [38, 64, 65, 66, 67, 73, 86].contains j
theorem kk_hF : ∀ t i, kk_F t i = true → t < 100 := by
  intro t i h
  rcases Bool.or_eq_true_iff.mp h with e | e <;> (have := Nat.eq_of_beq_eq_true (Bool.and_eq_true_iff.mp e).1; omega)
set_option maxRecDepth 100000 in
theorem kk_Ac : (List.range 100).all (fun j => !kk_A j || (match am_ms j with
    | some mj => fz_m kk_F ii_bt kk_A 0 mj
    | none => true)) = true := by decide +kernel
theorem kk_hA : ∀ j mj, kk_A j = true → am_ms j = some mj → fz_m kk_F ii_bt kk_A 0 mj = true := by
  intro j mj h1 h2
  have hj : j < 100 := by
    have h := List.contains_iff_mem.mp (show [38, 64, 65, 66, 67, 73, 86].contains j = true from h1)
    simp only [List.mem_cons, List.not_mem_nil, or_false] at h
    omega
  have := List.all_eq_true.mp kk_Ac j (List.mem_range.mpr hj)
  rw [h1, h2] at this
  exact this
theorem kk_run {j : Nat} {mj : am_M} (hj : am_ms j = some mj) (hA : kk_A j = true) {S : am_S} {r : am_R} (h : Rd mj S r) : fz_eq kk_F ii_bt S.2.2.2.1 r.2.1 := by
  obtain ⟨f, e⟩ := h
  exact fz_run kk_hF ii_hB kk_hA f _ 0 mj S r (kk_hA j mj hA hj) (Nat.zero_le _) e
set_option maxRecDepth 100000 in
theorem kk_106 : fz_m kk_F ii_bt kk_A 50 am_m106 = true := by decide +kernel
/-- a call that nobody catches for -/
theorem iv_C_ret {mi : am_M} {pc : Nat} {lo : List (Option Value)} {st : List Value} {k q : Nat} {r r1 : am_R} (hm : am_h mi = []) (hc : (∃ v h' k' q', r1 = (.inl v, h', k', q') ∧ Rd mi (pc + 3, lo, v.toList ++ st, h', k + k', q + q') r) ∨ (∃ x h' k' q' c t, r1 = (.inr x, h', k', q') ∧ h'[x]? = some c ∧ am_catch am_cx (am_h mi) pc c.1 = some t ∧ Rd mi (t, lo, [.ref x], h', k + k', q + q') r)) : ∃ v h' k' q', r1 = (.inl v, h', k', q') ∧ Rd mi (pc + 3, lo, v.toList ++ st, h', k + k', q + q') r := by
  rcases hc with hc | ⟨x, h', k', q', c, t, -, -, ht, -⟩
  · exact hc
  · rw [hm] at ht
    cases ht
theorem kk_in {z : Int32} (h : j_in z 8) : 2147483648 ≤ ab_b z ∧ ab_b z - 2147483648 < 8 := by
  have e : ab_b (8 : Int32) = 2147483656 := by decide
  obtain ⟨h1, h2⟩ := h
  rw [e] at h2
  exact ⟨h1, by omega⟩
set_option maxRecDepth 100000 in
/-- isUp -/
theorem kk_up {u : Nat → Nat} {h : am_H} {vs v7 : List Value} {z d : Int32} (e7 : h[u 7]? = some (7, v7)) (r7 : v7[0]? = some (.ref (u 8))) (e8 : h[u 8]? = some (101, vs)) (hz : 2147483648 ≤ ab_b z) (hv : vs[ab_b z - 2147483648]? = some (.int d)) (hd : d = 0 ∨ d = 1) {r : am_R} (hr : Rd am_m71 (0, [some (.ref (u 7)), some (.int z)], [], h, 0, 0) r) : r = (.inl (some (.int (if d = 0 then 1 else 0))), h, 0, 0) := by
  have hr := iw_st wk_q71 (show wk_at wk_m71 0 3 0 1 0 0 = true by decide +kernel) hr rfl
  have hr := iw_get wk_q71 (show wk_at wk_m71 1 25 7 0 0 0 = true by decide +kernel) e7 r7 hr
  have hr := iw_st wk_q71 (show wk_at wk_m71 4 2 1 1 0 0 = true by decide +kernel) hr rfl
  have hr := iw_bal wk_q71 (show wk_at wk_m71 5 28 0 0 0 0 = true by decide +kernel) e8 hz hv hr
  rcases hd with rfl | rfl
  · have hr := iw_iff wk_q71 (show wk_at wk_m71 6 22 1 13 0 0 = true by decide +kernel) (by decide) hr
    have hr := iw_st wk_q71 (show wk_at wk_m71 9 1 9 1 0 0 = true by decide +kernel) hr rfl
    have hr := iw_st wk_q71 (show wk_at wk_m71 10 21 14 0 0 0 = true by decide +kernel) hr rfl
    exact iw_en wk_q71 (show wk_at wk_m71 14 44 1 0 0 0 = true by decide +kernel) hr rfl
  · have hr := iw_ift wk_q71 (show wk_at wk_m71 6 22 1 13 0 0 = true by decide +kernel) (by decide) hr
    have hr := iw_st wk_q71 (show wk_at wk_m71 13 1 1 1 0 0 = true by decide +kernel) hr rfl
    exact iw_en wk_q71 (show wk_at wk_m71 14 44 1 0 0 0 = true by decide +kernel) hr rfl
set_option maxRecDepth 100000 in
/-- turn -/
theorem kk_turn {u : Nat → Nat} {h : am_H} {vs v7 : List Value} {z b : Int32} (e7 : h[u 7]? = some (7, v7)) (r7 : v7[0]? = some (.ref (u 8))) (n78 : u 7 ≠ u 8) (e8 : h[u 8]? = some (101, vs)) (hz : 2147483648 ≤ ab_b z) (hl : ab_b z - 2147483648 < vs.length) (hb : b = 0 ∨ b = 1) {r : am_R} (hr : Rd am_m75 (0, [some (.ref (u 7)), some (.int z), some (.int b), none, none], [], h, 0, 0) r) : ∃ h' k' q', r = (.inl none, h', k', q') ∧ fz_eq kk_F ii_bt (h.set (u 8) (101, vs.set (ab_b z - 2147483648) (.int (if b = 0 then 1 else 0)))) h' := by
  have hr := iw_st wk_q75 (show wk_at wk_m75 0 2 1 1 0 0 = true by decide +kernel) hr rfl
  have hr := iw_st wk_q75 (show wk_at wk_m75 1 1 17 1 0 0 = true by decide +kernel) hr rfl
  have hr := iw_st wk_q75 (show wk_at wk_m75 2 12 0 0 0 0 = true by decide +kernel) hr (by simp only [wk_ex, am_bin, if_true]; rw [if_neg (by decide)]; rfl)
  have hr := iw_st wk_q75 (show wk_at wk_m75 3 4 3 1 0 0 = true by decide +kernel) hr rfl
  have hr := iw_st wk_q75 (show wk_at wk_m75 4 1 33 1 0 0 = true by decide +kernel) hr rfl
  have hr := iw_st wk_q75 (show wk_at wk_m75 5 2 1 1 0 0 = true by decide +kernel) hr rfl
  have hr := iw_st wk_q75 (show wk_at wk_m75 6 1 17 1 0 0 = true by decide +kernel) hr rfl
  have hr := iw_st wk_q75 (show wk_at wk_m75 7 13 0 0 0 0 = true by decide +kernel) hr (by simp only [wk_ex, am_bin, if_true]; rw [if_neg (by decide)]; rfl)
  have hr := iw_st wk_q75 (show wk_at wk_m75 8 7 0 0 0 0 = true by decide +kernel) hr rfl
  have hr := iw_st wk_q75 (show wk_at wk_m75 9 4 4 2 0 0 = true by decide +kernel) hr rfl
  have hr := iw_st wk_q75 (show wk_at wk_m75 11 3 0 1 0 0 = true by decide +kernel) hr rfl
  have hr := iw_get wk_q75 (show wk_at wk_m75 12 25 7 0 0 0 = true by decide +kernel) e7 r7 hr
  have hr := iw_st wk_q75 (show wk_at wk_m75 15 2 1 1 0 0 = true by decide +kernel) hr rfl
  have hr := iw_st wk_q75 (show wk_at wk_m75 16 2 2 1 0 0 = true by decide +kernel) hr rfl
  have hr := iw_not wk_q75 (show wk_at wk_m75 17 22 1 24 0 0 = true by decide +kernel) (show wk_at wk_m75 20 1 9 1 0 0 = true by decide +kernel) (show wk_at wk_m75 21 21 25 0 0 0 = true by decide +kernel) (show wk_at wk_m75 24 1 1 1 0 0 = true by decide +kernel) hr
  have hr := iw_bas wk_q75 (show wk_at wk_m75 25 32 0 0 0 0 = true by decide +kernel) e8 hz hl (by rcases hb with rfl | rfl <;> rfl) hr
  have e7b : (h.set (u 8) (101, vs.set (ab_b z - 2147483648) (.int (if b = 0 then 1 else 0))))[u 7]? = some (7, v7) := by rw [List.getElem?_set_ne (Ne.symm n78)]; exact e7
  generalize h.set (u 8) (101, vs.set (ab_b z - 2147483648) (.int (if b = 0 then 1 else 0))) = h1 at hr e7b ⊢
  have hr := iw_st wk_q75 (show wk_at wk_m75 26 3 0 1 0 0 = true by decide +kernel) hr rfl
  have hr := iw_st wk_q75 (show wk_at wk_m75 27 2 3 1 0 0 = true by decide +kernel) hr rfl
  have hr := iw_st wk_q75 (show wk_at wk_m75 28 2 4 2 0 0 = true by decide +kernel) hr rfl
  obtain ⟨r1, hr1, hc⟩ := iw_iv (as := [_, _]) (r := []) wk_q75 (show wk_at wk_m75 30 40 67 2 2 7 = true by decide +kernel) e7b rfl rfl rfl (Nat.le_of_ble_eq_true rfl) (mj := am_m67) rfl hr
  obtain ⟨v1, h2, k2, q2, rfl, hr⟩ := iv_C_ret rfl hc
  obtain rfl := Rd_rt rfl hr1
  have f1 : fz_eq kk_F ii_bt h1 h2 := kk_run (j := 67) rfl rfl hr1
  obtain ⟨v7b, e7c, -⟩ := fz_cel f1 e7b
  have hr := iw_st wk_q75 (show wk_at wk_m75 33 3 0 1 0 0 = true by decide +kernel) hr rfl
  have hr := iw_st wk_q75 (show wk_at wk_m75 34 2 4 2 0 0 = true by decide +kernel) hr rfl
  have hr := iw_st wk_q75 (show wk_at wk_m75 36 2 3 1 0 0 = true by decide +kernel) hr rfl
  obtain ⟨r3, hr3, hc⟩ := iw_iv (as := [_, _]) (r := []) wk_q75 (show wk_at wk_m75 37 40 67 2 2 7 = true by decide +kernel) e7c rfl rfl rfl (Nat.le_of_ble_eq_true rfl) (mj := am_m67) rfl hr
  obtain ⟨v3, h3, k3, q3, rfl, hr⟩ := iv_C_ret rfl hc
  obtain rfl := Rd_rt rfl hr3
  have f3 : fz_eq kk_F ii_bt h2 h3 := kk_run (j := 67) rfl rfl hr3
  have er := iw_en wk_q75 (show wk_at wk_m75 40 46 0 0 0 0 = true by decide +kernel) hr rfl
  exact ⟨h3, _, _, er, fz_trans f1 f3⟩
/-- the class's link: how it ends -/
def kk_Q (u : Nat → Nat) (h : am_H) (vs : List Value) (z b : Int32) (r : am_R) : Prop := (¬ j_in z 8 ∧ r = (.inr h.length, h ++ [(10, [])], 1, 6)) ∨ (j_in z 8 ∧ ∃ d : Int32, vs[ab_b z - 2147483648]? = some (.int d) ∧ ((d ≠ b ∧ r = (.inr h.length, h ++ [(11, [])], 1, 6)) ∨ (d = b ∧ ∃ h' k' q', r = (.inl none, h', k', q') ∧ h'[u 8]? = some (101, vs.set (ab_b z - 2147483648) (.int (if b = 0 then 1 else 0))))))
set_option maxRecDepth 100000 in
theorem kk_link {τ u : Nat → Nat} {mc Tc Tm : Nat} (hU : ab_U w_uq τ u) (hut : ∀ k, w_uq k = true → τ (u k) = k) {h : am_H} (hJ : j_J τ u mc Tc Tm h) {vs : List Value} (e8 : h[u 8]? = some (101, vs)) (hl : vs.length = 8) (h01 : ∀ i, i < 8 → vs[i]? = some (.int 0) ∨ vs[i]? = some (.int 1)) {z b : Int32} (hb : b = 0 ∨ b = 1) {r : am_R} (hr : Rd am_m18 (0, [some (.ref (u 1)), some (.int z), some (.int b)], [], h, 0, 0) r) : kk_Q u h vs z b r := by
  have hud := md_ud hut
  obtain ⟨v1, e1⟩ := ii_at hut hJ 1 (by decide +kernel) (by decide)
  obtain ⟨v2, e2⟩ := ii_at hut hJ 2 (by decide +kernel) (by decide)
  obtain ⟨v7, e7⟩ := ii_at hut hJ 7 (by decide +kernel) (by decide)
  have s1 : ab_sl h (u 1) 0 = some (.ref (u 2)) := j_row1 (mc := mc) hU hJ.1 (by rw [hut 1 (by decide +kernel)]; decide) (by rw [hut 1 (by decide +kernel)]; decide) (by rw [hut 1 (by decide +kernel)]; rfl) (by decide +kernel)
  have s2 : ab_sl h (u 2) 0 = some (.ref (u 7)) := j_row1 (mc := mc) hU hJ.1 (by rw [hut 2 (by decide +kernel)]; decide) (by rw [hut 2 (by decide +kernel)]; decide) (by rw [hut 2 (by decide +kernel)]; rfl) (by decide +kernel)
  have s7 : ab_sl h (u 7) 0 = some (.ref (u 8)) := j_row1 (mc := mc) hU hJ.1 (by rw [hut 7 (by decide +kernel)]; decide) (by rw [hut 7 (by decide +kernel)]; decide) (by rw [hut 7 (by decide +kernel)]; rfl) (by decide +kernel)
  rw [ab_sl_at e1] at s1
  rw [ab_sl_at e2] at s2
  rw [ab_sl_at e7] at s7
  have hr := iw_st wk_q18 (show wk_at wk_m18 0 2 1 1 0 0 = true by decide +kernel) hr rfl
  have hr := iw_st wk_q18 (show wk_at wk_m18 1 1 65 2 0 0 = true by decide +kernel) hr rfl
  obtain ⟨r1, hr1, hcr1⟩ := iw_is (as := [.int z, .int 8]) (r := []) wk_q18 (show wk_at wk_m18 3 40 13 2 0 0 = true by decide +kernel) rfl rfl (Nat.le_of_ble_eq_true rfl) (mj := am_m13) rfl hr
  have q1 := Rd_det (jc_below (Q := fun r => (j_in z 8 ∧ r = (.inl (some (.int 1)), h, 0, 0)) ∨ (¬ j_in z 8 ∧ r = (.inl (some (.int 0)), h, 0, 0))) (fun e => Or.inl ⟨e, rfl⟩) (fun e => Or.inr ⟨e, rfl⟩)) hr1
  obtain ⟨w1, g1, k1, p1, er1, hr⟩ := iv_C_ret rfl hcr1
  rcases q1 with ⟨hin, rfl⟩ | ⟨hin, rfl⟩
  rotate_left
  · cases er1
    have hr := iw_iff wk_q18 (show wk_at wk_m18 6 22 1 19 0 0 = true by decide +kernel) (by decide) hr
    exact Or.inl ⟨hin, iw_en wk_q18 (show wk_at wk_m18 9 39 10 0 0 0 = true by decide +kernel) hr rfl⟩
  cases er1
  have hr := iw_ift wk_q18 (show wk_at wk_m18 6 22 1 19 0 0 = true by decide +kernel) (by decide) hr
  have hr := iw_st wk_q18 (show wk_at wk_m18 19 3 0 1 0 0 = true by decide +kernel) hr rfl
  have hr := iw_get wk_q18 (show wk_at wk_m18 20 25 0 0 0 0 = true by decide +kernel) e1 s1 hr
  have hr := iw_get wk_q18 (show wk_at wk_m18 23 25 2 0 0 0 = true by decide +kernel) e2 s2 hr
  have hr := iw_st wk_q18 (show wk_at wk_m18 26 2 1 1 0 0 = true by decide +kernel) hr rfl
  obtain ⟨r2, hr2, hcr2⟩ := iw_iv (as := [.int z]) (r := []) wk_q18 (show wk_at wk_m18 27 40 71 1 2 7 = true by decide +kernel) e7 rfl rfl rfl (Nat.le_of_ble_eq_true rfl) (mj := am_m71) rfl hr
  obtain ⟨hz, hzl⟩ := kk_in hin
  obtain ⟨d, hd01, hd⟩ : ∃ d : Int32, (d = 0 ∨ d = 1) ∧ vs[ab_b z - 2147483648]? = some (.int d) := by
    rcases h01 _ hzl with e | e
    · exact ⟨0, Or.inl rfl, e⟩
    · exact ⟨1, Or.inr rfl, e⟩
  have q2 := kk_up e7 s7 e8 hz hd hd01 hr2
  obtain ⟨w2, g2, k2, p2, er2, hr⟩ := iv_C_ret rfl hcr2
  rw [q2] at er2
  cases er2
  have hr := iw_st wk_q18 (show wk_at wk_m18 30 2 2 1 0 0 = true by decide +kernel) hr rfl
  refine Or.inr ⟨hin, d, hd, ?_⟩
  by_cases hdb : d = b
  rotate_left
  · refine Or.inl ⟨hdb, ?_⟩
    have hc : wk_c 1 (if d = 0 then (1 : Int32) else 0) b = false := by rcases hd01 with rfl | rfl <;> rcases hb with rfl | rfl <;> first | rfl | exact absurd rfl hdb
    have hr := iw_icf wk_q18 (show wk_at wk_m18 31 23 1 44 0 0 = true by decide +kernel) (hc) hr
    exact iw_en wk_q18 (show wk_at wk_m18 34 39 11 0 0 0 = true by decide +kernel) hr rfl
  refine Or.inr ⟨hdb, ?_⟩
  have hc : wk_c 1 (if d = 0 then (1 : Int32) else 0) b = true := by rcases hd01 with rfl | rfl <;> rcases hb with rfl | rfl <;> first | rfl | exact absurd hdb (by decide)
  have hr := iw_ict wk_q18 (show wk_at wk_m18 31 23 1 44 0 0 = true by decide +kernel) (hc) hr
  have hr := iw_st wk_q18 (show wk_at wk_m18 44 3 0 1 0 0 = true by decide +kernel) hr rfl
  have hr := iw_get wk_q18 (show wk_at wk_m18 45 25 0 0 0 0 = true by decide +kernel) e1 s1 hr
  have hr := iw_get wk_q18 (show wk_at wk_m18 48 25 2 0 0 0 = true by decide +kernel) e2 s2 hr
  have hr := iw_st wk_q18 (show wk_at wk_m18 51 2 1 1 0 0 = true by decide +kernel) hr rfl
  have hr := iw_st wk_q18 (show wk_at wk_m18 52 2 2 1 0 0 = true by decide +kernel) hr rfl
  obtain ⟨r3, hr3, hcr3⟩ := iw_iv (as := [.int z, .int b]) (r := []) wk_q18 (show wk_at wk_m18 53 40 75 2 2 7 = true by decide +kernel) e7 rfl rfl rfl (Nat.le_of_ble_eq_true rfl) (mj := am_m75) rfl hr
  obtain ⟨h3, k3, p3, rfl, f3⟩ := kk_turn e7 s7 (hud 7 8 (by decide +kernel) (by decide +kernel) (by decide)) e8 hz (by omega) hb hr3
  obtain ⟨w3, g3, k3b, p3b, er3, hr⟩ := iv_C_ret rfl hcr3
  cases er3
  have n8 : ∀ k, w_uq k = true → k ≠ 8 → u 8 ≠ u k := fun k hk hn e => hud k 8 hk (by decide +kernel) hn e.symm
  obtain ⟨v1b, e1b, p1b⟩ := fz_cel (a := u 1) (t := 0) (vs := v1) f3 (by rw [List.getElem?_set_ne (n8 1 (by decide +kernel) (by decide))]; exact e1)
  obtain ⟨v2b, e2b, -⟩ := fz_cel (a := u 2) (t := 2) (vs := v2) f3 (by rw [List.getElem?_set_ne (n8 2 (by decide +kernel) (by decide))]; exact e2)
  have s1b : v1b[0]? = some (.ref (u 2)) := by rw [p1b 0 rfl]; exact s1
  have e8b := fz_row f3 (List.getElem?_set_self (List.getElem?_eq_some_iff.mp e8).1) rfl
  have hr := iw_st wk_q18 (show wk_at wk_m18 56 3 0 1 0 0 = true by decide +kernel) hr rfl
  have hr := iw_get wk_q18 (show wk_at wk_m18 57 25 0 0 0 0 = true by decide +kernel) e1b s1b hr
  have hr := iw_st wk_q18 (show wk_at wk_m18 60 2 1 1 0 0 = true by decide +kernel) hr rfl
  obtain ⟨r4, hr4, hcr4⟩ := iw_iv (as := [.int z]) (r := []) wk_q18 (show wk_at wk_m18 61 40 38 1 2 2 = true by decide +kernel) e2b rfl rfl rfl (Nat.le_of_ble_eq_true rfl) (mj := am_m38) rfl hr
  obtain ⟨w4, g4, k4, p4, rfl, hr⟩ := iv_C_ret rfl hcr4
  obtain rfl := Rd_rt rfl hr4
  have f4 : fz_eq kk_F ii_bt h3 g4 := kk_run (j := 38) rfl rfl hr4
  have er := iw_en wk_q18 (show wk_at wk_m18 64 46 0 0 0 0 = true by decide +kernel) hr rfl
  exact ⟨g4, _, _, er, fz_row f4 e8b rfl⟩
set_option maxRecDepth 100000 in
/-- the law's link of the class -/
theorem kl_link {τ u : Nat → Nat} {mc Tc Tm : Nat} (hU : ab_U w_uq τ u) (hut : ∀ k, w_uq k = true → τ (u k) = k) {h : am_H} (hJ : j_J τ u mc Tc Tm h) {vs : List Value} (e8 : h[u 8]? = some (101, vs)) (hl : vs.length = 8) (h01 : ∀ i, i < 8 → vs[i]? = some (.int 0) ∨ vs[i]? = some (.int 1)) {z b : Int32} (hb : b = 0 ∨ b = 1) {r : am_R} (hr : Rd am_m135 (0, [some (.ref (u 1)), some (.int z), some (.int b), none], [], h, 0, 0) r) : ∃ (w : Int32) (h' : am_H) (k' q' : Nat), r = (.inl (some (.int w)), h', k', q') ∧ ((¬ j_in z 8 ∧ w = 1 ∧ h'[u 8]? = some (101, vs)) ∨ (j_in z 8 ∧ ∃ d : Int32, vs[ab_b z - 2147483648]? = some (.int d) ∧ ((d ≠ b ∧ w = 2 ∧ h'[u 8]? = some (101, vs)) ∨ (d = b ∧ w = 0 ∧ h'[u 8]? = some (101, vs.set (ab_b z - 2147483648) (.int (if b = 0 then 1 else 0))))))) := by
  obtain ⟨v1, e1⟩ := ii_at hut hJ 1 (by decide +kernel) (by decide)
  have app : ∀ c, (h ++ [c])[u 8]? = some (101, vs) := fun c => by rw [List.getElem?_append_left (List.getElem?_eq_some_iff.mp e8).1]; exact e8
  have lst : ∀ c : am_C, (h ++ [c])[h.length]? = some c := fun c => by rw [List.getElem?_append_right (Nat.le_refl _), Nat.sub_self]; rfl
  have hr := iw_st wk_q135 (show wk_at wk_m135 0 3 0 1 0 0 = true by decide +kernel) hr rfl
  have hr := iw_st wk_q135 (show wk_at wk_m135 1 2 1 1 0 0 = true by decide +kernel) hr rfl
  have hr := iw_st wk_q135 (show wk_at wk_m135 2 2 2 1 0 0 = true by decide +kernel) hr rfl
  obtain ⟨r1, hr1, hcr1⟩ := iw_iv (as := [.int z, .int b]) (r := []) wk_q135 (show wk_at wk_m135 3 40 18 2 2 0 = true by decide +kernel) e1 rfl rfl rfl (Nat.le_of_ble_eq_true rfl) (mj := am_m18) rfl hr
  rcases kk_link hU hut hJ e8 hl h01 hb hr1 with ⟨hin, rfl⟩ | ⟨hin, d, hd, ⟨hdb, rfl⟩ | ⟨hdb, h2, k2, q2, rfl, e8b⟩⟩
  · rcases hcr1 with ⟨v, g1, k1, p1, e, -⟩ | ⟨x, g1, k1, p1, c, t, e, hx, ht, hr⟩
    · cases e
    · cases e
      rw [lst] at hx
      cases hx
      have ht9 : am_catch am_cx (am_h am_m135) 3 10 = some 9 := by decide +kernel
      have ht : am_catch am_cx (am_h am_m135) 3 10 = some t := ht
      rw [ht9] at ht
      cases ht
      have hr := iw_st wk_q135 (show wk_at wk_m135 9 5 3 1 0 0 = true by decide +kernel) hr rfl
      have hr := iw_st wk_q135 (show wk_at wk_m135 10 1 9 1 0 0 = true by decide +kernel) hr rfl
      exact ⟨_, _, _, _, iw_en wk_q135 (show wk_at wk_m135 11 44 0 0 0 0 = true by decide +kernel) hr rfl, Or.inl ⟨hin, by decide, app _⟩⟩
  · rcases hcr1 with ⟨v, g1, k1, p1, e, -⟩ | ⟨x, g1, k1, p1, c, t, e, hx, ht, hr⟩
    · cases e
    · cases e
      rw [lst] at hx
      cases hx
      have ht9 : am_catch am_cx (am_h am_m135) 3 11 = some 12 := by decide +kernel
      have ht : am_catch am_cx (am_h am_m135) 3 11 = some t := ht
      rw [ht9] at ht
      cases ht
      have hr := iw_st wk_q135 (show wk_at wk_m135 12 5 3 1 0 0 = true by decide +kernel) hr rfl
      have hr := iw_st wk_q135 (show wk_at wk_m135 13 1 17 1 0 0 = true by decide +kernel) hr rfl
      exact ⟨_, _, _, _, iw_en wk_q135 (show wk_at wk_m135 14 44 0 0 0 0 = true by decide +kernel) hr rfl, Or.inr ⟨hin, d, hd, Or.inl ⟨hdb, by decide, app _⟩⟩⟩
  · rcases hcr1 with ⟨v, g1, k1, p1, e, hr⟩ | ⟨x, g1, k1, p1, c, t, e, -, -, -⟩
    · cases e
      have hr := iw_st wk_q135 (show wk_at wk_m135 6 21 15 0 0 0 = true by decide +kernel) hr rfl
      have hr := iw_st wk_q135 (show wk_at wk_m135 15 1 1 1 0 0 = true by decide +kernel) hr rfl
      exact ⟨_, _, _, _, iw_en wk_q135 (show wk_at wk_m135 16 44 0 0 0 0 = true by decide +kernel) hr rfl, Or.inr ⟨hin, d, hd, Or.inr ⟨hdb, by decide, e8b⟩⟩⟩
    · cases e
set_option maxRecDepth 100000 in
/-- the reference's link -/
theorem km_link {τ u : Nat → Nat} {mc Tc Tm : Nat} (hmc : mc < 9) (hU : ab_U w_uq τ u) (hut : ∀ k, w_uq k = true → τ (u k) = k) {h : am_H} (hJ : j_J τ u mc Tc Tm h) {vs : List Value} (e41 : h[u 41]? = some (101, vs)) (hl : vs.length = 8) (h01 : ∀ i, i < 8 → vs[i]? = some (.int 0) ∨ vs[i]? = some (.int 1)) {z b : Int32} (hb : b = 0 ∨ b = 1) {v : Option Value} {h' : am_H} {k' q' : Nat} (hr : Rd am_m106 (0, [some (.ref (u 40)), some (.int z), some (.int b), none, none, none], [], h, 0, 0) (.inl v, h', k', q')) : (¬ j_in z 8 ∧ ab_sl h' (u 40) 0 = some (.int 1) ∧ h'[u 41]? = some (101, vs)) ∨ (j_in z 8 ∧ ∃ d : Int32, vs[ab_b z - 2147483648]? = some (.int d) ∧ ((d ≠ b ∧ ab_sl h' (u 40) 0 = some (.int 2) ∧ h'[u 41]? = some (101, vs)) ∨ (d = b ∧ ab_sl h' (u 40) 0 = some (.int 0) ∧ h'[u 41]? = some (101, vs.set (ab_b z - 2147483648) (.int (if b = 0 then 1 else 0)))))) := by
  have hud := md_ud hut
  have hu0 : τ (u 40) ≠ 0 := by rw [hut 40 (by decide +kernel)]; decide
  have hu41 : τ (u 41) = 41 := hut 41 (by decide +kernel)
  obtain ⟨v40, e40⟩ := ii_at hut hJ 40 (by decide +kernel) (by decide)
  have s40 : ab_sl h (u 40) 5 = some (.ref (u 41)) := j_row1 (mc := mc) hU hJ.1 hu0 (by rw [hut 40 (by decide +kernel)]; decide) (by rw [hut 40 (by decide +kernel)]; rfl) (by decide +kernel)
  have s40c := s40
  rw [ab_sl_at e40] at s40c
  have thr : ∀ (a c : Int32) (r1 : am_R), Rd am_m125 (0, [some (.ref (u 40)), some (.int a), some (.int c)], [], h, 0, 0) r1 → ∃ h1 v1, r1 = (.inl (some (.int (if a = 0 ∧ c = 0 then 0 else 1))), h1, 0, 0) ∧ h1[u 40]? = some (9, v1) ∧ v1[5]? = some (.ref (u 41)) ∧ h1[u 41]? = some (101, vs) ∧ ab_sl h1 (u 40) 0 = some (.int (jm_tv a c)) := fun a c r1 hr1 => by
    have q := Rd_det (j_thr (Q := fun r => ∃ h1, r = (.inl (some (.int (if a = 0 ∧ c = 0 then 0 else 1))), h1, 0, 0) ∧ j_J τ u mc Tc Tm h1 ∧ (∀ x i, (x = u 40 → i ≠ 0) → ab_sl h1 x i = ab_sl h x i) ∧ ab_sl h1 (u 40) 0 = some (.int (jm_tv a c))) hmc hU hut hJ (fun h1 hJ1 _ _ hs ht => ⟨h1, rfl, hJ1, hs, ht⟩)) hr1
    obtain ⟨h1, rfl, hJ1, hs, ht⟩ := q
    obtain ⟨v1, e1⟩ := ii_at hut hJ1 40 (by decide +kernel) (by decide)
    obtain ⟨v41, l41, n41, -⟩ := hJ1.1 (u 41) (by rw [hu41]; decide)
    rw [hu41] at l41 n41
    have n41 : v41.length = 8 := n41
    refine ⟨h1, v1, rfl, e1, ?_, ?_, ht⟩
    · rw [← ab_sl_at e1, hs _ _ (fun _ => by decide)]
      exact s40
    · have : v41 = vs := List.ext_getElem? (fun i => by
        rw [← ab_sl_at l41, ← ab_sl_at e41]
        exact hs _ _ (fun e => absurd e (hud 41 40 (by decide +kernel) (by decide +kernel) (by decide))))
      rw [← this]
      exact l41
  have hr := iw_st wk_q106 (show wk_at wk_m106 0 2 1 1 0 0 = true by decide +kernel) hr rfl
  have hr := iw_st wk_q106 (show wk_at wk_m106 1 1 65 2 0 0 = true by decide +kernel) hr rfl
  obtain ⟨r1, hr1, hcr1⟩ := iw_is (as := [.int z, .int 8]) (r := []) wk_q106 (show wk_at wk_m106 3 40 113 2 0 0 = true by decide +kernel) rfl rfl (Nat.le_of_ble_eq_true rfl) (mj := am_m113) rfl hr
  have q1 := Rd_det (jm_out (Q := fun r => (j_in z 8 ∧ r = (.inl (some (.int 0)), h, 0, 0)) ∨ (¬ j_in z 8 ∧ r = (.inl (some (.int 1)), h, 0, 0))) (fun e => Or.inl ⟨e, rfl⟩) (fun e => Or.inr ⟨e, rfl⟩)) hr1
  obtain ⟨w1, g1, k1, p1, er1, hr⟩ := iv_C_ret rfl hcr1
  rcases q1 with ⟨hin, rfl⟩ | ⟨hin, rfl⟩
  rotate_left
  · cases er1
    have hr := iw_st wk_q106 (show wk_at wk_m106 6 4 3 1 0 0 = true by decide +kernel) hr rfl
    have hr := iw_st wk_q106 (show wk_at wk_m106 7 3 0 1 0 0 = true by decide +kernel) hr rfl
    have hr := iw_st wk_q106 (show wk_at wk_m106 8 2 3 1 0 0 = true by decide +kernel) hr rfl
    have hr := iw_st wk_q106 (show wk_at wk_m106 9 2 3 1 0 0 = true by decide +kernel) hr rfl
    have hr := iw_ift wk_q106 (show wk_at wk_m106 10 22 1 27 0 0 = true by decide +kernel) (by decide) hr
    have hr := iw_st wk_q106 (show wk_at wk_m106 27 1 1 1 0 0 = true by decide +kernel) hr rfl
    obtain ⟨r2, hr2, hcr2⟩ := iw_iv (as := [.int 1, .int (Int32.ofNat (1 / 8))]) (r := []) wk_q106 (show wk_at wk_m106 28 40 125 2 2 9 = true by decide +kernel) e40 rfl rfl rfl (Nat.le_of_ble_eq_true rfl) (mj := am_m125) rfl hr
    obtain ⟨h2, v2, rfl, e2, r2, l2, t2⟩ := thr _ _ _ hr2
    obtain ⟨w2, g2, k2, p2, er2, hr⟩ := iv_C_ret rfl hcr2
    cases er2
    rw [if_neg (by decide)] at hr
    have hr := iw_iff wk_q106 (show wk_at wk_m106 31 22 0 35 0 0 = true by decide +kernel) (by decide) hr
    have er := iw_en wk_q106 (show wk_at wk_m106 34 46 0 0 0 0 = true by decide +kernel) hr rfl
    cases er
    exact Or.inl ⟨hin, by rw [t2]; rfl, l2⟩
  cases er1
  have hr := iw_st wk_q106 (show wk_at wk_m106 6 4 3 1 0 0 = true by decide +kernel) hr rfl
  have hr := iw_st wk_q106 (show wk_at wk_m106 7 3 0 1 0 0 = true by decide +kernel) hr rfl
  have hr := iw_st wk_q106 (show wk_at wk_m106 8 2 3 1 0 0 = true by decide +kernel) hr rfl
  have hr := iw_st wk_q106 (show wk_at wk_m106 9 2 3 1 0 0 = true by decide +kernel) hr rfl
  have hr := iw_iff wk_q106 (show wk_at wk_m106 10 22 1 27 0 0 = true by decide +kernel) (by decide) hr
  have hr := iw_st wk_q106 (show wk_at wk_m106 13 3 0 1 0 0 = true by decide +kernel) hr rfl
  have hr := iw_get wk_q106 (show wk_at wk_m106 14 25 9 5 0 0 = true by decide +kernel) e40 s40c hr
  have hr := iw_st wk_q106 (show wk_at wk_m106 17 2 1 1 0 0 = true by decide +kernel) hr rfl
  obtain ⟨hz, hzl⟩ := kk_in hin
  obtain ⟨d, hd01, hd⟩ : ∃ d : Int32, (d = 0 ∨ d = 1) ∧ vs[ab_b z - 2147483648]? = some (.int d) := by
    rcases h01 _ hzl with e | e
    · exact ⟨0, Or.inl rfl, e⟩
    · exact ⟨1, Or.inr rfl, e⟩
  have hr := iw_bal wk_q106 (show wk_at wk_m106 18 28 0 0 0 0 = true by decide +kernel) e41 hz hd hr
  have hr := iw_st wk_q106 (show wk_at wk_m106 19 2 2 1 0 0 = true by decide +kernel) hr rfl
  refine Or.inr ⟨hin, d, hd, ?_⟩
  by_cases hdb : d = b
  rotate_left
  · refine Or.inl ⟨hdb, ?_⟩
    have hr := iw_icf wk_q106 (show wk_at wk_m106 20 23 0 27 0 0 = true by decide +kernel) (decide_eq_false hdb) hr
    have hr := iw_st wk_q106 (show wk_at wk_m106 23 1 9 1 0 0 = true by decide +kernel) hr rfl
    have hr := iw_st wk_q106 (show wk_at wk_m106 24 21 28 0 0 0 = true by decide +kernel) hr rfl
    obtain ⟨r2, hr2, hcr2⟩ := iw_iv (as := [.int 0, .int (Int32.ofNat (9 / 8))]) (r := []) wk_q106 (show wk_at wk_m106 28 40 125 2 2 9 = true by decide +kernel) e40 rfl rfl rfl (Nat.le_of_ble_eq_true rfl) (mj := am_m125) rfl hr
    obtain ⟨h2, v2, rfl, e2, r2, l2, t2⟩ := thr _ _ _ hr2
    obtain ⟨w2, g2, k2, p2, er2, hr⟩ := iv_C_ret rfl hcr2
    cases er2
    rw [if_neg (by decide)] at hr
    have hr := iw_iff wk_q106 (show wk_at wk_m106 31 22 0 35 0 0 = true by decide +kernel) (by decide) hr
    have er := iw_en wk_q106 (show wk_at wk_m106 34 46 0 0 0 0 = true by decide +kernel) hr rfl
    cases er
    exact ⟨by rw [t2]; rfl, l2⟩
  refine Or.inr ⟨hdb, ?_⟩
  have hr := iw_ict wk_q106 (show wk_at wk_m106 20 23 0 27 0 0 = true by decide +kernel) (decide_eq_true hdb) hr
  have hr := iw_st wk_q106 (show wk_at wk_m106 27 1 1 1 0 0 = true by decide +kernel) hr rfl
  obtain ⟨r2, hr2, hcr2⟩ := iw_iv (as := [.int 0, .int (Int32.ofNat (1 / 8))]) (r := []) wk_q106 (show wk_at wk_m106 28 40 125 2 2 9 = true by decide +kernel) e40 rfl rfl rfl (Nat.le_of_ble_eq_true rfl) (mj := am_m125) rfl hr
  obtain ⟨h2, v2, rfl, e2, r2, l2, t2⟩ := thr _ _ _ hr2
  obtain ⟨w2, g2, k2, p2, er2, hr⟩ := iv_C_ret rfl hcr2
  cases er2
  rw [if_pos (by decide)] at hr
  have hr := iw_ift wk_q106 (show wk_at wk_m106 31 22 0 35 0 0 = true by decide +kernel) (by decide) hr
  have hr := iw_st wk_q106 (show wk_at wk_m106 35 3 0 1 0 0 = true by decide +kernel) hr rfl
  have hr := iw_get wk_q106 (show wk_at wk_m106 36 25 9 5 0 0 = true by decide +kernel) e2 r2 hr
  have hr := iw_st wk_q106 (show wk_at wk_m106 39 2 1 1 0 0 = true by decide +kernel) hr rfl
  have hr := iw_st wk_q106 (show wk_at wk_m106 40 2 2 1 0 0 = true by decide +kernel) hr rfl
  have hr := iw_not wk_q106 (show wk_at wk_m106 41 22 1 48 0 0 = true by decide +kernel) (show wk_at wk_m106 44 1 9 1 0 0 = true by decide +kernel) (show wk_at wk_m106 45 21 49 0 0 0 = true by decide +kernel) (show wk_at wk_m106 48 1 1 1 0 0 = true by decide +kernel) hr
  have hr := iw_bas wk_q106 (show wk_at wk_m106 49 32 0 0 0 0 = true by decide +kernel) l2 hz (by omega) (by rcases hb with rfl | rfl <;> rfl) hr
  obtain ⟨f, er⟩ := hr
  have hf := fz_run kk_hF ii_hB kk_hA f _ 50 am_m106 _ _ kk_106 (Nat.le_refl _) er
  have hf : fz_eq kk_F ii_bt (h2.set (u 41) (101, vs.set (ab_b z - 2147483648) (.int (if b = 0 then 1 else 0)))) h' := hf
  refine ⟨?_, fz_row hf (List.getElem?_set_self (List.getElem?_eq_some_iff.mp l2).1) rfl⟩
  have c2 : (h2.set (u 41) (101, vs.set (ab_b z - 2147483648) (.int (if b = 0 then 1 else 0))))[u 40]? = some (9, v2) := by rw [List.getElem?_set_ne (hud 41 40 (by decide +kernel) (by decide +kernel) (by decide))]; exact e2
  obtain ⟨v5, e5, p5⟩ := fz_cel hf c2
  rw [ab_sl_at e5, p5 0 rfl, ← ab_sl_at e2, t2]
  rfl
/-- a row of which no slot has changed -/
theorem kk_sam {τ u : Nat → Nat} {mc Tc Tm Tc' Tm' : Nat} {h h' : am_H} (hut : ∀ k, w_uq k = true → τ (u k) = k) (hJ' : j_J τ u mc Tc' Tm' h') (k : Nat) (hk : w_uq k = true) (h0 : k ≠ 0) {vs : List Value} (e : h[u k]? = some ((w_kd k).1, vs)) (hs : ∀ i, ab_sl h' (u k) i = ab_sl h (u k) i) : h'[u k]? = some ((w_kd k).1, vs) := by
  obtain ⟨v, e'⟩ := ii_at hut hJ' k hk h0
  have : v = vs := List.ext_getElem? (fun i => by
    rw [← ab_sl_at e', ← ab_sl_at e]
    exact hs i)
  rw [← this]
  exact e'
theorem kk_fc {τ u : Nat → Nat} {mc Tc Tm : Nat} (hmc : mc < 9) (hU : ab_U w_uq τ u) (hut : ∀ k, w_uq k = true → τ (u k) = k) {h : am_H} (hJ : j_J τ u mc Tc Tm h) {xs : List Value} (hA : ab_gA τ 2147483648 (kc_rho u 0) [(1, 16, 0), ab_top, w_r 0 1] xs) : cl_Rn am_m135 (0, xs.map some ++ List.replicate (am_L am_m135 - xs.length) none, [], h, 0, 0) (fun r => ∀ i, ab_sl r.2.1 (u 41) i = ab_sl h (u 41) i) := by
  refine Rn_mono (j_run hut (j_k135 mc hmc) (fun C hC => cl_all hmc ⟨Nat.le_refl _, by decide⟩ hU hut 135 _ C hC) rfl hJ hJ.2.1 hA) (fun r hr => ?_)
  obtain ⟨v, h', k', q', rfl, -, -, -, hF, -⟩ := hr
  exact fun i => j_fr hJ.1 hF (by rw [hut 41 (by decide +kernel)]; decide) (by rw [hut 41 (by decide +kernel)]; exact (by decide +kernel : ab_tb j_mc (Nat.add (Nat.mul 41 64) 63) = false))
theorem kk_fm {τ u : Nat → Nat} {mc Tc Tm : Nat} (hmc : mc < 9) (hU : ab_U w_uq τ u) (hut : ∀ k, w_uq k = true → τ (u k) = k) {h : am_H} (hJ : j_J τ u mc Tc Tm h) {xs : List Value} (hA : ab_gA τ 2147483648 (kc_rho u 0) [(1, 640, 0), ab_top, w_r 0 1] xs) : cl_Rn am_m106 (0, xs.map some ++ List.replicate (am_L am_m106 - xs.length) none, [], h, 0, 0) (fun r => ∀ i, ab_sl r.2.1 (u 8) i = ab_sl h (u 8) i) := by
  refine Rn_mono (j_run hut (j_k106 mc hmc) (fun C hC => ma_all hmc ⟨Nat.le_refl _, by decide⟩ hU hut 106 _ C hC) rfl hJ hJ.2.2.1 hA) (fun r hr => ?_)
  obtain ⟨v, h', k', q', rfl, -, -, -, hF, -⟩ := hr
  exact fun i => j_fr hJ.1 hF (by rw [hut 8 (by decide +kernel)]; decide) (by rw [hut 8 (by decide +kernel)]; exact (by decide +kernel : ab_tb j_mr (Nat.add (Nat.mul 8 64) 63) = false))
/-- class and reference agree on a link -/
theorem kk_end {u : Nat → Nat} {h1 h2 : am_H} {vs : List Value} (hl : vs.length = 8) (h01 : ∀ i, i < 8 → vs[i]? = some (.int 0) ∨ vs[i]? = some (.int 1)) {z b w : Int32} (hc : (¬ j_in z 8 ∧ w = 1 ∧ h1[u 8]? = some (101, vs)) ∨ (j_in z 8 ∧ ∃ d : Int32, vs[ab_b z - 2147483648]? = some (.int d) ∧ ((d ≠ b ∧ w = 2 ∧ h1[u 8]? = some (101, vs)) ∨ (d = b ∧ w = 0 ∧ h1[u 8]? = some (101, vs.set (ab_b z - 2147483648) (.int (if b = 0 then 1 else 0))))))) (hm : (¬ j_in z 8 ∧ ab_sl h2 (u 40) 0 = some (.int 1) ∧ h2[u 41]? = some (101, vs)) ∨ (j_in z 8 ∧ ∃ d : Int32, vs[ab_b z - 2147483648]? = some (.int d) ∧ ((d ≠ b ∧ ab_sl h2 (u 40) 0 = some (.int 2) ∧ h2[u 41]? = some (101, vs)) ∨ (d = b ∧ ab_sl h2 (u 40) 0 = some (.int 0) ∧ h2[u 41]? = some (101, vs.set (ab_b z - 2147483648) (.int (if b = 0 then 1 else 0))))))) : ab_sl h2 (u 40) 0 = some (.int w) ∧ ∃ vs', h1[u 8]? = some (101, vs') ∧ h2[u 41]? = some (101, vs') ∧ vs'.length = 8 ∧ ∀ i, i < 8 → vs'[i]? = some (.int 0) ∨ vs'[i]? = some (.int 1) := by
  rcases hc with ⟨n, rfl, c⟩ | ⟨n, d, hd, hc⟩
  · rcases hm with ⟨-, t, m⟩ | ⟨n', -⟩
    · exact ⟨t, vs, c, m, hl, h01⟩
    · exact absurd n' n
  · rcases hm with ⟨n', -, -⟩ | ⟨-, d', hd', hm⟩
    · exact absurd n n'
    · rw [hd] at hd'
      cases hd'
      rcases hc with ⟨e, rfl, c⟩ | ⟨e, rfl, c⟩
      · rcases hm with ⟨-, t, m⟩ | ⟨e', -, -⟩
        · exact ⟨t, vs, c, m, hl, h01⟩
        · exact absurd e' e
      · rcases hm with ⟨e', -, -⟩ | ⟨-, t, m⟩
        · exact absurd e e'
        · refine ⟨t, _, c, m, by rw [List.length_set]; exact hl, fun i hi => ?_⟩
          rw [List.getElem?_set]
          split
          · split
            · split
              · exact Or.inr rfl
              · exact Or.inl rfl
            · omega
          · exact h01 i hi
/-- at the law's beginning -/
theorem ii_s : ii_I s_u s_h := by
  have h8 := s_at (a := s_u 8) (by decide +kernel)
  have h41 := s_at (a := s_u 41) (by decide +kernel)
  have l8 : (fm_cell 0 ev_TD ev_MD (s_u 8)).1 = 101 ∧ (fm_cell 0 ev_TD ev_MD (s_u 8)).2.length = 8 := by
    unfold fm_cell
    rw [List.length_map, List.length_range]
    exact ⟨by decide +kernel, by decide +kernel⟩
  have l41 : (fm_cell 0 ev_TD ev_MD (s_u 41)).1 = 101 ∧ (fm_cell 0 ev_TD ev_MD (s_u 41)).2.length = 8 := by
    unfold fm_cell
    rw [List.length_map, List.length_range]
    exact ⟨by decide +kernel, by decide +kernel⟩
  have z8 := s_z_d (a := s_u 8) (n := 8) (by decide +kernel)
  have z41 := s_z_d (a := s_u 41) (n := 8) (by decide +kernel)
  have e8 : s_h[s_u 8]? = some (101, (fm_cell 0 ev_TD ev_MD (s_u 8)).2) := by rw [h8, ← l8.1]
  have e41 : s_h[s_u 41]? = some (101, (fm_cell 0 ev_TD ev_MD (s_u 41)).2) := by rw [h41, ← l41.1]
  have ee : (fm_cell 0 ev_TD ev_MD (s_u 41)).2 = (fm_cell 0 ev_TD ev_MD (s_u 8)).2 := List.ext_getElem? (fun i => by
    by_cases hi : i < 8
    · rw [← ab_sl_at e8, ← ab_sl_at e41, z8 i hi, z41 i hi]
    · rw [List.getElem?_eq_none (by omega), List.getElem?_eq_none (by omega)])
  refine ⟨_, e8, by rw [← ee]; exact e41, l8.2, fun i hi => Or.inl ?_⟩
  rw [← ab_sl_at e8]
  exact z8 i hi
