/-! ===== what is asked before a machine is made, by hand ===== -/
def j_in (a b : Int32) : Prop := 2147483648 ≤ ab_b a ∧ ab_b a < ab_b b
set_option maxRecDepth 100000 in
theorem jm_out {a b : Int32} {h : am_H} {Q : am_R → Prop} (h1 : j_in a b → Q (.inl (some (.int 0)), h, 0, 0)) (h2 : ¬ j_in a b → Q (.inl (some (.int 1)), h, 0, 0)) : cl_Rn am_m113 (0, [some (.int a), some (.int b)], [], h, 0, 0) Q := by
  have one : ¬ j_in a b → cl_Rn am_m113 (9, [some (.int a), some (.int b)], [], h, 0, 0) Q := fun hn => by
    refine rs_st (cmp := am_cmp) wk_q113 (show wk_at wk_m113 9 1 9 1 0 0 = true by decide +kernel) rfl ?_
    refine rs_st (cmp := am_cmp) wk_q113 (show wk_at wk_m113 10 21 14 0 0 0 = true by decide +kernel) rfl ?_
    exact rs_en (cmp := am_cmp) wk_q113 (show wk_at wk_m113 14 44 1 0 0 0 = true by decide +kernel) rfl (h2 hn)
  refine rs_st (cmp := am_cmp) wk_q113 (show wk_at wk_m113 0 2 0 1 0 0 = true by decide +kernel) rfl ?_
  by_cases e1 : ab_b a < 2147483648
  · refine rs_ift wk_q113 (show wk_at wk_m113 1 22 2 9 0 0 = true by decide +kernel) (by show decide (a < 0) = true; exact decide_eq_true (ab_b_lti.mpr (by rw [ab_b_0]; exact e1))) ?_
    exact one (fun e => by have := e.1; omega)
  refine rs_iff wk_q113 (show wk_at wk_m113 1 22 2 9 0 0 = true by decide +kernel) (by show decide (a < 0) = false; exact decide_eq_false (fun e => e1 (by have := ab_b_lti.mp e; rw [ab_b_0] at this; exact this))) ?_
  refine rs_st (cmp := am_cmp) wk_q113 (show wk_at wk_m113 4 2 0 1 0 0 = true by decide +kernel) rfl ?_
  refine rs_st (cmp := am_cmp) wk_q113 (show wk_at wk_m113 5 2 1 1 0 0 = true by decide +kernel) rfl ?_
  by_cases e2 : ab_b a < ab_b b
  · refine rs_ict wk_q113 (show wk_at wk_m113 6 23 2 13 0 0 = true by decide +kernel) (by show decide (a < b) = true; exact decide_eq_true (ab_b_lti.mpr e2)) ?_
    refine rs_st (cmp := am_cmp) wk_q113 (show wk_at wk_m113 13 1 1 1 0 0 = true by decide +kernel) rfl ?_
    exact rs_en (cmp := am_cmp) wk_q113 (show wk_at wk_m113 14 44 1 0 0 0 = true by decide +kernel) rfl (h1 ⟨by omega, e2⟩)
  refine rs_icf wk_q113 (show wk_at wk_m113 6 23 2 13 0 0 = true by decide +kernel) (by show decide (a < b) = false; exact decide_eq_false (fun e => e2 (ab_b_lti.mp e))) ?_
  exact one (fun e => e2 e.2)
set_option maxRecDepth 100000 in
theorem jc_below {a b : Int32} {h : am_H} {Q : am_R → Prop} (h1 : j_in a b → Q (.inl (some (.int 1)), h, 0, 0)) (h2 : ¬ j_in a b → Q (.inl (some (.int 0)), h, 0, 0)) : cl_Rn am_m13 (0, [some (.int a), some (.int b)], [], h, 0, 0) Q := by
  have one : ¬ j_in a b → cl_Rn am_m13 (13, [some (.int a), some (.int b)], [], h, 0, 0) Q := fun hn => by
    refine rs_st (cmp := am_cmp) wk_q13 (show wk_at wk_m13 13 1 1 1 0 0 = true by decide +kernel) rfl ?_
    exact rs_en (cmp := am_cmp) wk_q13 (show wk_at wk_m13 14 44 1 0 0 0 = true by decide +kernel) rfl (h2 hn)
  refine rs_st (cmp := am_cmp) wk_q13 (show wk_at wk_m13 0 2 0 1 0 0 = true by decide +kernel) rfl ?_
  by_cases e1 : ab_b a < 2147483648
  · refine rs_ift wk_q13 (show wk_at wk_m13 1 22 2 13 0 0 = true by decide +kernel) (by show decide (a < 0) = true; exact decide_eq_true (ab_b_lti.mpr (by rw [ab_b_0]; exact e1))) ?_
    exact one (fun e => by have := e.1; omega)
  refine rs_iff wk_q13 (show wk_at wk_m13 1 22 2 13 0 0 = true by decide +kernel) (by show decide (a < 0) = false; exact decide_eq_false (fun e => e1 (by have := ab_b_lti.mp e; rw [ab_b_0] at this; exact this))) ?_
  refine rs_st (cmp := am_cmp) wk_q13 (show wk_at wk_m13 4 2 0 1 0 0 = true by decide +kernel) rfl ?_
  refine rs_st (cmp := am_cmp) wk_q13 (show wk_at wk_m13 5 2 1 1 0 0 = true by decide +kernel) rfl ?_
  by_cases e2 : ab_b a < ab_b b
  · refine rs_icf wk_q13 (show wk_at wk_m13 6 23 3 13 0 0 = true by decide +kernel) (by show decide (b ≤ a) = false; exact decide_eq_false (fun e => by have := ab_b_lei.mp e; omega)) ?_
    refine rs_st (cmp := am_cmp) wk_q13 (show wk_at wk_m13 9 1 9 1 0 0 = true by decide +kernel) rfl ?_
    refine rs_st (cmp := am_cmp) wk_q13 (show wk_at wk_m13 10 21 14 0 0 0 = true by decide +kernel) rfl ?_
    exact rs_en (cmp := am_cmp) wk_q13 (show wk_at wk_m13 14 44 1 0 0 0 = true by decide +kernel) rfl (h1 ⟨by omega, e2⟩)
  refine rs_ict wk_q13 (show wk_at wk_m13 6 23 3 13 0 0 = true by decide +kernel) (by show decide (b ≤ a) = true; exact decide_eq_true (ab_b_lei.mpr (by omega))) ?_
  exact one (fun e => e2 e.2)
set_option maxRecDepth 100000 in
theorem jc_leaf {a : Int32} {h : am_H} {Q : am_R → Prop} (h1 : j_in a 4 → Q (.inl (some (.int 1)), h, 0, 0)) (h2 : ¬ j_in a 4 → Q (.inl (some (.int 0)), h, 0, 0)) : cl_Rn am_m14 (0, [some (.int a)], [], h, 0, 0) Q := by
  refine rs_st (cmp := am_cmp) wk_q14 (show wk_at wk_m14 0 2 0 1 0 0 = true by decide +kernel) rfl ?_
  refine rs_st (cmp := am_cmp) wk_q14 (show wk_at wk_m14 1 1 33 1 0 0 = true by decide +kernel) rfl ?_
  refine rs_is (as := [.int a, .int 4]) (r := []) wk_q14 (show wk_at wk_m14 2 40 13 2 0 0 = true by decide +kernel) rfl rfl (Nat.le_of_ble_eq_true rfl) (mj := am_m13) rfl ⟨by decide, by decide, Nat.le_of_ble_eq_true rfl⟩ ?_
  refine jc_below (fun e => ⟨_, h, 0, 0, rfl, ?_⟩) (fun e => ⟨_, h, 0, 0, rfl, ?_⟩)
  · exact rs_en (cmp := am_cmp) wk_q14 (show wk_at wk_m14 5 44 1 0 0 0 = true by decide +kernel) rfl (h1 e)
  · exact rs_en (cmp := am_cmp) wk_q14 (show wk_at wk_m14 5 44 1 0 0 0 = true by decide +kernel) rfl (h2 e)
/-- what throwing writes -/
def jm_tv (a b : Int32) : Int32 := if a = 0 then (if b = 0 then 0 else 2) else 1
set_option maxRecDepth 100000 in
theorem jm_thr {Gm : Nat → Nat → List ab_V} {τ u : Nat → Nat} {tv wr : Nat} (hut : ∀ k, w_uq k = true → τ (u k) = k) (hG : Gm 40 0 = [w_r 0 2]) (hwr : ab_tb wr (ab_bt w_kd 40 0) = true) {h0 h : am_H} (hP : rs_H w_kd w_un Gm τ tv wr h0 h 0) {a b : Int32} {Q : am_R → Prop} (hQ : ∀ h', rs_H w_kd w_un Gm τ tv wr h0 h' 0 → (∀ x i, (x = u 40 → i ≠ 0) → ab_sl h' x i = ab_sl h x i) → ab_sl h' (u 40) 0 = some (.int (jm_tv a b)) → Q (.inl (some (.int (if a = 0 ∧ b = 0 then 0 else 1))), h', 0, 0)) : cl_Rn am_m125 (0, [some (.ref (u 40)), some (.int a), some (.int b)], [], h, 0, 0) Q := by
  have hu : τ (u 40) = 40 := hut 40 (by decide +kernel)
  have hu0 : τ (u 40) ≠ 0 := by rw [hu]; decide
  have hk40 : (w_kd (τ (u 40))).1 = 9 := by rw [hu]; rfl
  have fin : ∀ (z : Int32) (n : Nat), ab_b z = 2147483648 + n → n ≤ 2 → (n = 0 ↔ (a = 0 ∧ b = 0)) → z = jm_tv a b → cl_Rn am_m125 (18, [some (.ref (u 40)), some (.int a), some (.int b)], [.int z, .ref (u 40)], h, 0, 0) Q := fun z n hz hn2 hn0 hzv => by
    refine rs_put (cmp := am_cmp) wk_q125 (show wk_at wk_m125 18 26 9 0 0 0 = true by decide +kernel) hP hu0 hk40 (by rw [hu]; decide) rfl (by rw [hu]; exact hwr) (by rw [hu]; show ∃ w ∈ Gm 40 0, _; rw [hG]; exact ⟨_, List.mem_singleton_self _, z, rfl, by show 2147483648 ≤ _; omega, by show _ ≤ 2147483650; omega⟩) (fun h1 hP1 e1 => ?_)
    refine rs_st (cmp := am_cmp) wk_q125 (show wk_at wk_m125 21 3 0 1 0 0 = true by decide +kernel) rfl ?_
    refine rs_get (cmp := am_cmp) wk_q125 (show wk_at wk_m125 22 25 9 0 0 0 = true by decide +kernel) hP1.1 hu0 hk40 (v := .int z) (by rw [e1, if_pos ⟨rfl, rfl⟩]) ?_
    have hs : ∀ x i, (x = u 40 → i ≠ 0) → ab_sl h1 x i = ab_sl h x i := fun x i hx => by rw [e1, if_neg (fun z => hx z.1 z.2)]
    have hQ := hQ h1 hP1 hs (by rw [e1, if_pos ⟨rfl, rfl⟩, hzv])
    by_cases e : n = 0
    · refine rs_ift wk_q125 (show wk_at wk_m125 25 22 5 32 0 0 = true by decide +kernel) (by show decide (z ≤ 0) = true; exact decide_eq_true (ab_b_lei.mpr (by rw [ab_b_0]; omega))) ?_
      rw [if_pos (hn0.mp e)] at hQ
      refine rs_st (cmp := am_cmp) wk_q125 (show wk_at wk_m125 32 1 1 1 0 0 = true by decide +kernel) rfl ?_
      exact rs_en (cmp := am_cmp) wk_q125 (show wk_at wk_m125 33 44 1 0 0 0 = true by decide +kernel) rfl (hQ)
    · refine rs_iff wk_q125 (show wk_at wk_m125 25 22 5 32 0 0 = true by decide +kernel) (by show decide (z ≤ 0) = false; exact decide_eq_false (fun hle => by have := ab_b_lei.mp hle; rw [ab_b_0] at this; omega)) ?_
      rw [if_neg (fun x => e (hn0.mpr x))] at hQ
      refine rs_st (cmp := am_cmp) wk_q125 (show wk_at wk_m125 28 1 9 1 0 0 = true by decide +kernel) rfl ?_
      refine rs_st (cmp := am_cmp) wk_q125 (show wk_at wk_m125 29 21 33 0 0 0 = true by decide +kernel) rfl ?_
      exact rs_en (cmp := am_cmp) wk_q125 (show wk_at wk_m125 33 44 1 0 0 0 = true by decide +kernel) rfl (hQ)
  refine rs_st (cmp := am_cmp) wk_q125 (show wk_at wk_m125 0 3 0 1 0 0 = true by decide +kernel) rfl ?_
  refine rs_st (cmp := am_cmp) wk_q125 (show wk_at wk_m125 1 2 1 1 0 0 = true by decide +kernel) rfl ?_
  by_cases ea : a = 0
  · refine rs_ift wk_q125 (show wk_at wk_m125 2 22 0 9 0 0 = true by decide +kernel) (by show decide (a = 0) = true; exact decide_eq_true ea) ?_
    refine rs_st (cmp := am_cmp) wk_q125 (show wk_at wk_m125 9 2 2 1 0 0 = true by decide +kernel) rfl ?_
    by_cases eb : b = 0
    · refine rs_ift wk_q125 (show wk_at wk_m125 10 22 0 17 0 0 = true by decide +kernel) (by show decide (b = 0) = true; exact decide_eq_true eb) ?_
      refine rs_st (cmp := am_cmp) wk_q125 (show wk_at wk_m125 17 1 1 1 0 0 = true by decide +kernel) rfl ?_
      exact fin _ 0 (by decide) (by omega) ⟨fun _ => ⟨ea, eb⟩, fun _ => rfl⟩ (by unfold jm_tv; rw [if_pos ea, if_pos eb]; decide)
    · refine rs_iff wk_q125 (show wk_at wk_m125 10 22 0 17 0 0 = true by decide +kernel) (by show decide (b = 0) = false; exact decide_eq_false eb) ?_
      refine rs_st (cmp := am_cmp) wk_q125 (show wk_at wk_m125 13 1 17 1 0 0 = true by decide +kernel) rfl ?_
      refine rs_st (cmp := am_cmp) wk_q125 (show wk_at wk_m125 14 21 18 0 0 0 = true by decide +kernel) rfl ?_
      exact fin _ 2 (by decide) (by omega) ⟨(fun h => absurd h (by decide)), fun h => absurd h.2 eb⟩ (by unfold jm_tv; rw [if_pos ea, if_neg eb]; decide)
  · refine rs_iff wk_q125 (show wk_at wk_m125 2 22 0 9 0 0 = true by decide +kernel) (by show decide (a = 0) = false; exact decide_eq_false ea) ?_
    refine rs_st (cmp := am_cmp) wk_q125 (show wk_at wk_m125 5 1 9 1 0 0 = true by decide +kernel) rfl ?_
    refine rs_st (cmp := am_cmp) wk_q125 (show wk_at wk_m125 6 21 18 0 0 0 = true by decide +kernel) rfl ?_
    exact fin _ 1 (by decide) (by omega) ⟨(fun h => absurd h (by decide)), fun h => absurd h.1 ea⟩ (by unfold jm_tv; rw [if_neg ea]; decide)
set_option maxRecDepth 100000 in
/-- the reference: is there a machine of that tenant with that address -/
theorem jm_wa {Gm : Nat → Nat → List ab_V} {τ u : Nat → Nat} {tv : Nat} (hut : ∀ k, w_uq k = true → τ (u k) = k) {h : am_H} (hI : ab_I w_kd w_un Gm τ tv h) (r59 : ab_sl h (u 40) 26 = some (.ref (u 59))) (r60 : ab_sl h (u 40) 27 = some (.ref (u 60))) {m : Nat} (hm : m ≤ 8) {zm : Int32} (hzm : ab_sl h (u 40) 25 = some (.int zm)) (hm' : ab_b zm = 2147483648 + m) {t a : Nat → Int32} (ht : ∀ i, i < m → ab_sl h (u 59) i = some (.int (t i))) (ha : ∀ i, i < m → ab_sl h (u 60) i = some (.int (a i))) {zt za : Int32} {Q : am_R → Prop} (h1 : ∀ (z : Int32) i, i < m → t i = zt → a i = za → ab_b z = 2147483648 + i → Q (.inl (some (.int z)), h, 0, 0)) (h2 : (∀ i, i < m → ¬ (t i = zt ∧ a i = za)) → Q (.inl (some (.int (-1))), h, 0, 0)) : cl_Rn am_m128 (0, [some (.ref (u 40)), some (.int zt), some (.int za), none], [], h, 0, 0) Q := by
  have hu : τ (u 40) = 40 := hut 40 (by decide +kernel)
  have hu0 : τ (u 40) ≠ 0 := by rw [hu]; decide
  have hk40 : (w_kd (τ (u 40))).1 = 9 := by rw [hu]; rfl
  have v59 : τ (u 59) = 59 := hut 59 (by decide +kernel)
  have v60 : τ (u 60) = 60 := hut 60 (by decide +kernel)
  have c0 : ab_b (Int32.ofNat (1 / 8)) = 2147483648 := by decide
  have c1 : ab_b (Int32.ofNat 1) = 2147483649 := by decide
  have key : ∀ (d i : Nat) (zi : Int32), i + d = m → ab_b zi = 2147483648 + i → (∀ j, j < i → ¬ (t j = zt ∧ a j = za)) → cl_Rn am_m128 (2, [some (.ref (u 40)), some (.int zt), some (.int za), some (.int zi)], [], h, 0, 0) Q := by
    intro d
    induction d with
    | zero =>
      intro i zi hd hzi hno
      refine rs_st (cmp := am_cmp) wk_q128 (show wk_at wk_m128 2 2 3 1 0 0 = true by decide +kernel) rfl ?_
      refine rs_st (cmp := am_cmp) wk_q128 (show wk_at wk_m128 3 3 0 1 0 0 = true by decide +kernel) rfl ?_
      refine rs_get (cmp := am_cmp) wk_q128 (show wk_at wk_m128 4 25 9 25 0 0 = true by decide +kernel) hI hu0 hk40 hzm ?_
      refine rs_ict wk_q128 (show wk_at wk_m128 7 23 3 38 0 0 = true by decide +kernel) (by show decide (zm ≤ zi) = true; exact decide_eq_true (ab_b_lei.mpr (by omega))) ?_
      refine rs_st (cmp := am_cmp) wk_q128 (show wk_at wk_m128 38 1 34359738361 1 0 0 = true by decide +kernel) rfl ?_
      exact rs_en (cmp := am_cmp) wk_q128 (show wk_at wk_m128 39 44 0 0 0 0 = true by decide +kernel) rfl (h2 (fun j hj => hno j (by omega)))
    | succ d ih =>
      intro i zi hd hzi hno
      have hinc := ab_b_add (x := zi) (y := Int32.ofNat 1) (by omega) (by omega)
      have hix : ab_b zi - 2147483648 = i := by rw [hzi]; exact Nat.add_sub_cancel_left ..
      have nxt : ¬ (t i = zt ∧ a i = za) → cl_Rn am_m128 (32, [some (.ref (u 40)), some (.int zt), some (.int za), some (.int zi)], [], h, 0, 0) Q := fun hne => by
        refine rs_st (cmp := am_cmp) wk_q128 (show wk_at wk_m128 32 6 3 1 0 0 = true by decide +kernel) rfl ?_
        refine rs_st (cmp := am_cmp) wk_q128 (show wk_at wk_m128 35 21 2 0 0 0 = true by decide +kernel) rfl ?_
        refine ih (i + 1) (zi + Int32.ofNat 1) (by omega) (by omega) (fun j hj => ?_)
        by_cases e : j = i
        · rw [e]; exact hne
        · exact hno j (by omega)
      refine rs_st (cmp := am_cmp) wk_q128 (show wk_at wk_m128 2 2 3 1 0 0 = true by decide +kernel) rfl ?_
      refine rs_st (cmp := am_cmp) wk_q128 (show wk_at wk_m128 3 3 0 1 0 0 = true by decide +kernel) rfl ?_
      refine rs_get (cmp := am_cmp) wk_q128 (show wk_at wk_m128 4 25 9 25 0 0 = true by decide +kernel) hI hu0 hk40 hzm ?_
      refine rs_icf wk_q128 (show wk_at wk_m128 7 23 3 38 0 0 = true by decide +kernel) (by show decide (zm ≤ zi) = false; exact decide_eq_false (fun hle => by have := ab_b_lei.mp hle; omega)) ?_
      refine rs_st (cmp := am_cmp) wk_q128 (show wk_at wk_m128 10 3 0 1 0 0 = true by decide +kernel) rfl ?_
      refine rs_get (cmp := am_cmp) wk_q128 (show wk_at wk_m128 11 25 9 26 0 0 = true by decide +kernel) hI hu0 hk40 r59 ?_
      refine rs_st (cmp := am_cmp) wk_q128 (show wk_at wk_m128 14 2 3 1 0 0 = true by decide +kernel) rfl ?_
      refine rs_ald (cmp := am_cmp) (Or.inl ⟨rfl, rfl⟩) wk_q128 (show wk_at wk_m128 15 27 0 0 0 0 = true by decide +kernel) hI (by rw [v59]; decide) (by rw [v59]; rfl) (by omega) (v := t i) (by rw [hix]; exact ht i (by omega)) ?_
      refine rs_st (cmp := am_cmp) wk_q128 (show wk_at wk_m128 16 2 1 1 0 0 = true by decide +kernel) rfl ?_
      by_cases e1 : t i = zt
      rotate_left
      · refine rs_ict wk_q128 (show wk_at wk_m128 17 23 1 32 0 0 = true by decide +kernel) (by show (!decide (t i = zt)) = true; rw [decide_eq_false e1]; rfl) ?_
        exact nxt (fun e => e1 e.1)
      refine rs_icf wk_q128 (show wk_at wk_m128 17 23 1 32 0 0 = true by decide +kernel) (by show (!decide (t i = zt)) = false; rw [decide_eq_true e1]; rfl) ?_
      refine rs_st (cmp := am_cmp) wk_q128 (show wk_at wk_m128 20 3 0 1 0 0 = true by decide +kernel) rfl ?_
      refine rs_get (cmp := am_cmp) wk_q128 (show wk_at wk_m128 21 25 9 27 0 0 = true by decide +kernel) hI hu0 hk40 r60 ?_
      refine rs_st (cmp := am_cmp) wk_q128 (show wk_at wk_m128 24 2 3 1 0 0 = true by decide +kernel) rfl ?_
      refine rs_ald (cmp := am_cmp) (Or.inl ⟨rfl, rfl⟩) wk_q128 (show wk_at wk_m128 25 27 0 0 0 0 = true by decide +kernel) hI (by rw [v60]; decide) (by rw [v60]; rfl) (by omega) (v := a i) (by rw [hix]; exact ha i (by omega)) ?_
      refine rs_st (cmp := am_cmp) wk_q128 (show wk_at wk_m128 26 2 2 1 0 0 = true by decide +kernel) rfl ?_
      by_cases e2 : a i = za
      rotate_left
      · refine rs_ict wk_q128 (show wk_at wk_m128 27 23 1 32 0 0 = true by decide +kernel) (by show (!decide (a i = za)) = true; rw [decide_eq_false e2]; rfl) ?_
        exact nxt (fun e => e2 e.2)
      refine rs_icf wk_q128 (show wk_at wk_m128 27 23 1 32 0 0 = true by decide +kernel) (by show (!decide (a i = za)) = false; rw [decide_eq_true e2]; rfl) ?_
      refine rs_st (cmp := am_cmp) wk_q128 (show wk_at wk_m128 30 2 3 1 0 0 = true by decide +kernel) rfl ?_
      exact rs_en (cmp := am_cmp) wk_q128 (show wk_at wk_m128 31 44 0 0 0 0 = true by decide +kernel) rfl (h1 zi i (by omega) e1 e2 hzi)
  refine rs_st (cmp := am_cmp) wk_q128 (show wk_at wk_m128 0 1 1 1 0 0 = true by decide +kernel) rfl ?_
  refine rs_st (cmp := am_cmp) wk_q128 (show wk_at wk_m128 1 4 3 1 0 0 = true by decide +kernel) rfl ?_
  exact key m 0 _ (by omega) c0 (fun j hj => absurd hj (Nat.not_lt_zero j))
set_option maxRecDepth 100000 in
/-- the class: is there a machine of that tenant with that address -/
theorem jc_with {Gm : Nat → Nat → List ab_V} {τ u : Nat → Nat} {tv : Nat} (hut : ∀ k, w_uq k = true → τ (u k) = k) {h : am_H} (hI : ab_I w_kd w_un Gm τ tv h) (r6 : ab_sl h (u 1) 4 = some (.ref (u 6))) {m : Nat} (hm : m ≤ 8) {zm : Int32} (hzm : ab_sl h (u 1) 5 = some (.int zm)) (hm' : ab_b zm = 2147483648 + m) {y : Nat → Nat} {t a : Nat → Int32} (hy : ∀ i, i < m → ab_sl h (u 6) i = some (.ref (y i)) ∧ τ (y i) = 32 ∧ ab_sl h (y i) 1 = some (.int (t i)) ∧ ab_sl h (y i) 2 = some (.int (a i))) {zt za : Int32} {Q : am_R → Prop} (h1 : ∀ (z : Int32) i, i < m → t i = zt → a i = za → ab_b z = 2147483648 + i → Q (.inl (some (.int z)), h, 0, 0)) (h2 : (∀ i, i < m → ¬ (t i = zt ∧ a i = za)) → Q (.inl (some (.int (-1))), h, 0, 0)) : cl_Rn am_m21 (0, [some (.ref (u 1)), some (.int zt), some (.int za), none], [], h, 0, 0) Q := by
  have hu : τ (u 1) = 1 := hut 1 (by decide +kernel)
  have hu0 : τ (u 1) ≠ 0 := by rw [hu]; decide
  have hk1 : (w_kd (τ (u 1))).1 = 0 := by rw [hu]; rfl
  have v6 : τ (u 6) = 6 := hut 6 (by decide +kernel)
  have c0 : ab_b (Int32.ofNat (1 / 8)) = 2147483648 := by decide
  have c1 : ab_b (Int32.ofNat 1) = 2147483649 := by decide
  have key : ∀ (d i : Nat) (zi : Int32), i + d = m → ab_b zi = 2147483648 + i → (∀ j, j < i → ¬ (t j = zt ∧ a j = za)) → cl_Rn am_m21 (2, [some (.ref (u 1)), some (.int zt), some (.int za), some (.int zi)], [], h, 0, 0) Q := by
    intro d
    induction d with
    | zero =>
      intro i zi hd hzi hno
      refine rs_st (cmp := am_cmp) wk_q21 (show wk_at wk_m21 2 2 3 1 0 0 = true by decide +kernel) rfl ?_
      refine rs_st (cmp := am_cmp) wk_q21 (show wk_at wk_m21 3 3 0 1 0 0 = true by decide +kernel) rfl ?_
      refine rs_get (cmp := am_cmp) wk_q21 (show wk_at wk_m21 4 25 0 5 0 0 = true by decide +kernel) hI hu0 hk1 hzm ?_
      refine rs_ict wk_q21 (show wk_at wk_m21 7 23 3 44 0 0 = true by decide +kernel) (by show decide (zm ≤ zi) = true; exact decide_eq_true (ab_b_lei.mpr (by omega))) ?_
      refine rs_st (cmp := am_cmp) wk_q21 (show wk_at wk_m21 44 1 34359738361 1 0 0 = true by decide +kernel) rfl ?_
      exact rs_en (cmp := am_cmp) wk_q21 (show wk_at wk_m21 45 44 0 0 0 0 = true by decide +kernel) rfl (h2 (fun j hj => hno j (by omega)))
    | succ d ih =>
      intro i zi hd hzi hno
      have hinc := ab_b_add (x := zi) (y := Int32.ofNat 1) (by omega) (by omega)
      have hix : ab_b zi - 2147483648 = i := by rw [hzi]; exact Nat.add_sub_cancel_left ..
      obtain ⟨y1, y2, y3, y4⟩ := hy i (by omega)
      have hy0 : τ (y i) ≠ 0 := by rw [y2]; decide
      have hky : (w_kd (τ (y i))).1 = 5 := by rw [y2]; rfl
      have nxt : ¬ (t i = zt ∧ a i = za) → cl_Rn am_m21 (38, [some (.ref (u 1)), some (.int zt), some (.int za), some (.int zi)], [], h, 0, 0) Q := fun hne => by
        refine rs_st (cmp := am_cmp) wk_q21 (show wk_at wk_m21 38 6 3 1 0 0 = true by decide +kernel) rfl ?_
        refine rs_st (cmp := am_cmp) wk_q21 (show wk_at wk_m21 41 21 2 0 0 0 = true by decide +kernel) rfl ?_
        refine ih (i + 1) (zi + Int32.ofNat 1) (by omega) (by omega) (fun j hj => ?_)
        by_cases e : j = i
        · rw [e]; exact hne
        · exact hno j (by omega)
      refine rs_st (cmp := am_cmp) wk_q21 (show wk_at wk_m21 2 2 3 1 0 0 = true by decide +kernel) rfl ?_
      refine rs_st (cmp := am_cmp) wk_q21 (show wk_at wk_m21 3 3 0 1 0 0 = true by decide +kernel) rfl ?_
      refine rs_get (cmp := am_cmp) wk_q21 (show wk_at wk_m21 4 25 0 5 0 0 = true by decide +kernel) hI hu0 hk1 hzm ?_
      refine rs_icf wk_q21 (show wk_at wk_m21 7 23 3 44 0 0 = true by decide +kernel) (by show decide (zm ≤ zi) = false; exact decide_eq_false (fun hle => by have := ab_b_lei.mp hle; omega)) ?_
      refine rs_st (cmp := am_cmp) wk_q21 (show wk_at wk_m21 10 3 0 1 0 0 = true by decide +kernel) rfl ?_
      refine rs_get (cmp := am_cmp) wk_q21 (show wk_at wk_m21 11 25 0 4 0 0 = true by decide +kernel) hI hu0 hk1 r6 ?_
      refine rs_st (cmp := am_cmp) wk_q21 (show wk_at wk_m21 14 2 3 1 0 0 = true by decide +kernel) rfl ?_
      refine rs_aal (cmp := am_cmp) wk_cmp_ok wk_q21 (show wk_at wk_m21 15 30 0 0 0 0 = true by decide +kernel) hI (by rw [v6]; decide) (by rw [v6]; decide) (by omega) (y := y i) (by rw [hix]; exact y1) ?_
      refine rs_get (cmp := am_cmp) wk_q21 (show wk_at wk_m21 16 25 5 1 0 0 = true by decide +kernel) hI hy0 hky y3 ?_
      refine rs_st (cmp := am_cmp) wk_q21 (show wk_at wk_m21 19 2 1 1 0 0 = true by decide +kernel) rfl ?_
      by_cases e1 : t i = zt
      rotate_left
      · refine rs_ict wk_q21 (show wk_at wk_m21 20 23 1 38 0 0 = true by decide +kernel) (by show (!decide (t i = zt)) = true; rw [decide_eq_false e1]; rfl) ?_
        exact nxt (fun e => e1 e.1)
      refine rs_icf wk_q21 (show wk_at wk_m21 20 23 1 38 0 0 = true by decide +kernel) (by show (!decide (t i = zt)) = false; rw [decide_eq_true e1]; rfl) ?_
      refine rs_st (cmp := am_cmp) wk_q21 (show wk_at wk_m21 23 3 0 1 0 0 = true by decide +kernel) rfl ?_
      refine rs_get (cmp := am_cmp) wk_q21 (show wk_at wk_m21 24 25 0 4 0 0 = true by decide +kernel) hI hu0 hk1 r6 ?_
      refine rs_st (cmp := am_cmp) wk_q21 (show wk_at wk_m21 27 2 3 1 0 0 = true by decide +kernel) rfl ?_
      refine rs_aal (cmp := am_cmp) wk_cmp_ok wk_q21 (show wk_at wk_m21 28 30 0 0 0 0 = true by decide +kernel) hI (by rw [v6]; decide) (by rw [v6]; decide) (by omega) (y := y i) (by rw [hix]; exact y1) ?_
      refine rs_get (cmp := am_cmp) wk_q21 (show wk_at wk_m21 29 25 5 2 0 0 = true by decide +kernel) hI hy0 hky y4 ?_
      refine rs_st (cmp := am_cmp) wk_q21 (show wk_at wk_m21 32 2 2 1 0 0 = true by decide +kernel) rfl ?_
      by_cases e2 : a i = za
      rotate_left
      · refine rs_ict wk_q21 (show wk_at wk_m21 33 23 1 38 0 0 = true by decide +kernel) (by show (!decide (a i = za)) = true; rw [decide_eq_false e2]; rfl) ?_
        exact nxt (fun e => e2 e.2)
      refine rs_icf wk_q21 (show wk_at wk_m21 33 23 1 38 0 0 = true by decide +kernel) (by show (!decide (a i = za)) = false; rw [decide_eq_true e2]; rfl) ?_
      refine rs_st (cmp := am_cmp) wk_q21 (show wk_at wk_m21 36 2 3 1 0 0 = true by decide +kernel) rfl ?_
      exact rs_en (cmp := am_cmp) wk_q21 (show wk_at wk_m21 37 44 0 0 0 0 = true by decide +kernel) rfl (h1 zi i (by omega) e1 e2 hzi)
  refine rs_st (cmp := am_cmp) wk_q21 (show wk_at wk_m21 0 1 1 1 0 0 = true by decide +kernel) rfl ?_
  refine rs_st (cmp := am_cmp) wk_q21 (show wk_at wk_m21 1 4 3 1 0 0 = true by decide +kernel) rfl ?_
  exact key m 0 _ (by omega) c0 (fun j hj => absurd hj (Nat.not_lt_zero j))
