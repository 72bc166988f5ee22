/-! ===== routes: the reference ===== -/
theorem r_hb1 : ∀ j, j < 6 → ∀ i, i < 6 → r_hb (2 ^ j) i = decide (i = j) := by decide +kernel
theorem r_hb2 : ∀ j, j < 6 → ∀ b, b < 64 → ∀ i, i < 6 → r_hb (b ||| 2 ^ j) i = (r_hb b i || decide (i = j)) := by decide +kernel
theorem r_hb0 : ∀ i, i < 6 → r_hb 0 i = false := by decide +kernel
/-- least and bits, behind some neighbours -/
def r_iv (g : Nat → Nat) (D : List Nat) (p : Nat × Nat) : Prop := p.1 ≤ 15 ∧ p.2 < 64 ∧ (∀ j, j ∈ D → p.1 ≤ g j) ∧ ∀ i, i < 6 → (r_hb p.2 i = true ↔ (i ∈ D ∧ g i = p.1 ∧ p.1 < 15))
theorem r_iv0 (g : Nat → Nat) : r_iv g [] (15, 0) := ⟨by decide, by decide, fun j h => (by cases h), fun i hi => by
  rw [r_hb0 i hi]
  exact ⟨fun h => (by cases h), fun h => absurd h.1 (by simp)⟩⟩
theorem r_iv1 {g : Nat → Nat} {D : List Nat} {p : Nat × Nat} {j : Nat} (hj : j < 6) (h : r_iv g D p) : r_iv g (j :: D) (r_fs (g j) j p) := by
  obtain ⟨h1, h2, h3, h4⟩ := h
  obtain ⟨L, B⟩ := p
  have h1 : L ≤ 15 := h1
  have h2 : B < 64 := h2
  have h3 : ∀ j, j ∈ D → L ≤ g j := h3
  have h4 : ∀ i, i < 6 → (r_hb B i = true ↔ (i ∈ D ∧ g i = L ∧ L < 15)) := h4
  unfold r_fs
  dsimp only
  by_cases e1 : g j < L
  · rw [if_pos e1]
    refine ⟨by show g j ≤ 15; omega, r_p6 j hj, fun i hi => ?_, fun i hi => ?_⟩
    · show g j ≤ g i
      rcases List.mem_cons.mp hi with rfl | hi
      · exact Nat.le_refl _
      · have := h3 i hi; omega
    · show r_hb (2 ^ j) i = true ↔ (i ∈ j :: D ∧ g i = g j ∧ g j < 15)
      rw [r_hb1 j hj i hi]
      refine ⟨fun h => ?_, fun h => ?_⟩
      · have := of_decide_eq_true h
        subst this
        exact ⟨List.mem_cons_self, rfl, by omega⟩
      · refine decide_eq_true ?_
        rcases List.mem_cons.mp h.1 with e | e
        · exact e
        · have := h3 i e
          have := h.2.1
          omega
  · rw [if_neg e1]
    by_cases e2 : g j = L ∧ g j < 15
    · rw [if_pos e2]
      refine ⟨h1, r_or6 j hj B h2, fun i hi => ?_, fun i hi => ?_⟩
      · show L ≤ g i
        rcases List.mem_cons.mp hi with rfl | hi
        · omega
        · exact h3 i hi
      · show r_hb (B ||| 2 ^ j) i = true ↔ (i ∈ j :: D ∧ g i = L ∧ L < 15)
        rw [r_hb2 j hj B h2 i hi]
        refine ⟨fun h => ?_, fun h => ?_⟩
        · rcases Bool.or_eq_true_iff.mp h with e | e
          · obtain ⟨q1, q2, q3⟩ := (h4 i hi).mp e
            exact ⟨List.mem_cons_of_mem _ q1, q2, q3⟩
          · have := of_decide_eq_true e
            subst this
            exact ⟨List.mem_cons_self, e2.1, by omega⟩
        · rcases List.mem_cons.mp h.1 with e | e
          · rw [decide_eq_true e]
            exact Bool.or_true _
          · rw [(h4 i hi).mpr ⟨e, h.2⟩]
            rfl
    · rw [if_neg e2]
      refine ⟨h1, h2, fun i hi => ?_, fun i hi => ?_⟩
      · show L ≤ g i
        rcases List.mem_cons.mp hi with rfl | hi
        · omega
        · exact h3 i hi
      · show r_hb B i = true ↔ (i ∈ j :: D ∧ g i = L ∧ L < 15)
        refine ⟨fun h => ?_, fun h => ?_⟩
        · obtain ⟨q1, q2, q3⟩ := (h4 i hi).mp h
          exact ⟨List.mem_cons_of_mem _ q1, q2, q3⟩
        · rcases List.mem_cons.mp h.1 with e | e
          · subst e
            exact absurd ⟨h.2.1, by have := h.2.1; have := h.2.2; omega⟩ e2
          · exact (h4 i hi).mpr ⟨e, h.2⟩
/-- which neighbours are hops -/
theorem r_hop (w : Nat → Nat → Nat → Nat) {n l : Nat} (hn : n < 6) {i : Nat} (hi : i < 6) : r_hb (r_h w n l) i = true ↔ (r_nb n i ∧ l ≠ n ∧ w n i l + 1 = r_d w n l ∧ r_d w n l < 16) := by
  unfold r_h r_d
  by_cases e : l = n
  · rw [if_pos e, if_pos e, r_hb0 i hi]
    exact ⟨fun h => (by cases h), fun h => absurd e h.2.1⟩
  · rw [if_neg e, if_neg e]
    unfold r_f
    by_cases h4 : n < 4
    · rw [if_pos h4]
      have q : r_iv (fun j => w n j l) [5, 4] (r_fs (w n 5 l) 5 (r_fs (w n 4 l) 4 (15, 0))) := r_iv1 (j := 5) (by decide) (r_iv1 (j := 4) (by decide) (r_iv0 (fun j => w n j l)))
      show r_hb (r_fs (w n 5 l) 5 (r_fs (w n 4 l) 4 (15, 0))).2 i = true ↔ (r_nb n i ∧ l ≠ n ∧ w n i l + 1 = (r_fs (w n 5 l) 5 (r_fs (w n 4 l) 4 (15, 0))).1 + 1 ∧ (r_fs (w n 5 l) 5 (r_fs (w n 4 l) 4 (15, 0))).1 + 1 < 16)
      generalize r_fs (w n 5 l) 5 (r_fs (w n 4 l) 4 (15, 0)) = p at q ⊢
      have q4 : r_hb p.2 i = true ↔ (i ∈ [5, 4] ∧ w n i l = p.1 ∧ p.1 < 15) := q.2.2.2 i hi
      rw [q4]
      simp only [List.mem_cons, List.not_mem_nil, or_false]
      refine ⟨fun h => ⟨Or.inl ⟨h4, by omega⟩, e, by omega, by omega⟩, fun h => ⟨?_, by omega, by omega⟩⟩
      rcases h.1 with ⟨z1, z2⟩ | ⟨z1, z2⟩ <;> omega
    · rw [if_neg h4]
      have q : r_iv (fun j => w n j l) [3, 2, 1, 0] (r_fs (w n 3 l) 3 (r_fs (w n 2 l) 2 (r_fs (w n 1 l) 1 (r_fs (w n 0 l) 0 (15, 0))))) := r_iv1 (j := 3) (by decide) (r_iv1 (j := 2) (by decide) (r_iv1 (j := 1) (by decide) (r_iv1 (j := 0) (by decide) (r_iv0 (fun j => w n j l)))))
      show r_hb (r_fs (w n 3 l) 3 (r_fs (w n 2 l) 2 (r_fs (w n 1 l) 1 (r_fs (w n 0 l) 0 (15, 0))))).2 i = true ↔ (r_nb n i ∧ l ≠ n ∧ w n i l + 1 = (r_fs (w n 3 l) 3 (r_fs (w n 2 l) 2 (r_fs (w n 1 l) 1 (r_fs (w n 0 l) 0 (15, 0))))).1 + 1 ∧ (r_fs (w n 3 l) 3 (r_fs (w n 2 l) 2 (r_fs (w n 1 l) 1 (r_fs (w n 0 l) 0 (15, 0))))).1 + 1 < 16)
      generalize r_fs (w n 3 l) 3 (r_fs (w n 2 l) 2 (r_fs (w n 1 l) 1 (r_fs (w n 0 l) 0 (15, 0)))) = p at q ⊢
      have q4 : r_hb p.2 i = true ↔ (i ∈ [3, 2, 1, 0] ∧ w n i l = p.1 ∧ p.1 < 15) := q.2.2.2 i hi
      rw [q4]
      simp only [List.mem_cons, List.not_mem_nil, or_false]
      refine ⟨fun h => ⟨Or.inr ⟨by omega, by omega⟩, e, by omega, by omega⟩, fun h => ⟨?_, by omega, by omega⟩⟩
      rcases h.1 with ⟨z1, z2⟩ | ⟨z1, z2⟩ <;> omega
/-- what the reference has -/
def rr_I (c : Nat → Nat) (w : Nat → Nat → Nat → Nat) (dn : Nat → Nat) (h : am_H) : Prop := ((∃ n, rv_C h (c 23) 9 n) ∧ ab_sl h (c 23) 5 = some (.ref (c 24)) ∧ ab_sl h (c 23) 6 = some (.ref (c 25))) ∧ rv_C h (c 24) 101 8 ∧ rv_C h (c 25) 100 64 ∧ (∀ i, i < 8 → ab_sl h (c 24) i = some (.int (Int32.ofNat (dn i)))) ∧ ∀ n m l, r_nb n m → l < 4 → ab_sl h (c 25) (8 * r_lk n m + (if n < 4 then 0 else 4) + l) = some (.int (Int32.ofNat (w n m l)))
/-- over a link that is down nothing is heard -/
def r_dd (w : Nat → Nat → Nat → Nat) (dn : Nat → Nat) : Prop := ∀ n m l, r_nb n m → dn (r_lk n m) = 1 → w n m l = 16
def r_nk (n k : Nat) : Nat := if n < 4 then 4 + k else k
def r_ct (n : Nat) : Nat := if n < 4 then 2 else 4
theorem r_nkb {n k : Nat} (hn : n < 6) (hk : k < r_ct n) : r_nb n (r_nk n k) := by
  unfold r_ct at hk
  unfold r_nk
  by_cases h : n < 4
  · rw [if_pos h] at hk ⊢
    exact Or.inl ⟨h, by omega⟩
  · rw [if_neg h] at hk ⊢
    exact Or.inr ⟨by omega, hk⟩
theorem r_ct4 (n : Nat) : r_ct n ≤ 4 := by unfold r_ct; split <;> omega
set_option maxRecDepth 100000 in
theorem r_lo {h : am_H} {n k : Nat} (hn : n < 6) (hk : k < 6) {r : am_R} (hr : Rd am_m107 (0, [some (.int (Int32.ofNat n)), some (.int (Int32.ofNat k))], [], h, 0, 0) r) : r = (.inl (some (.int (if k < r_ct n then Int32.ofNat (r_lk n (r_nk n k)) else Int32.ofNat 4294967295))), h, 0, 0) := by
  have hr := iw_st wk_q107 (show wk_at wk_m107 0 2 0 1 0 0 = true by decide +kernel) hr rfl
  have hr := iw_st wk_q107 (show wk_at wk_m107 1 1 33 1 0 0 = true by decide +kernel) hr rfl
  by_cases h4 : n < 4
  · have hr := iw_icf wk_q107 (show wk_at wk_m107 2 23 3 20 0 0 = true by decide +kernel) (by rw [r_c3 (by omega) (by omega)]; exact decide_eq_false (by show ¬ 33 / 8 ≤ n; omega)) hr
    have hr := iw_st wk_q107 (show wk_at wk_m107 5 2 1 1 0 0 = true by decide +kernel) hr rfl
    have hr := iw_st wk_q107 (show wk_at wk_m107 6 1 17 1 0 0 = true by decide +kernel) hr rfl
    by_cases hk2 : k < r_ct n
    · rw [if_pos hk2]
      have hk3 : k < 2 := by unfold r_ct at hk2; rw [if_pos h4] at hk2; exact hk2
      have hr := iw_icf wk_q107 (show wk_at wk_m107 7 23 3 18 0 0 = true by decide +kernel) (by rw [r_c3 (by omega) (by omega)]; exact decide_eq_false (by show ¬ 17 / 8 ≤ k; omega)) hr
      have hr := iw_st wk_q107 (show wk_at wk_m107 10 1 17 1 0 0 = true by decide +kernel) hr rfl
      have hr := iw_st wk_q107 (show wk_at wk_m107 11 2 0 1 0 0 = true by decide +kernel) hr rfl
      have hr := iw_st wk_q107 (show wk_at wk_m107 12 9 0 0 0 0 = true by decide +kernel) hr rfl
      have hr := iw_st wk_q107 (show wk_at wk_m107 13 2 1 1 0 0 = true by decide +kernel) hr rfl
      have hr := iw_st wk_q107 (show wk_at wk_m107 14 7 0 0 0 0 = true by decide +kernel) hr rfl
      rw [show Int32.ofNat (17 / 8) * Int32.ofNat n + Int32.ofNat k = Int32.ofNat (r_lk n (r_nk n k)) from by rw [r_mul (by omega) (by omega), r_add (by omega) (by omega)]; congr 1; unfold r_lk r_nk; rw [if_pos h4, if_pos h4]; omega] at hr
      have hr := iw_st wk_q107 (show wk_at wk_m107 15 21 19 0 0 0 = true by decide +kernel) hr rfl
      exact iw_en wk_q107 (show wk_at wk_m107 19 44 0 0 0 0 = true by decide +kernel) hr rfl
    · rw [if_neg hk2]
      have hk3 : ¬ k < 2 := by unfold r_ct at hk2; rw [if_pos h4] at hk2; exact hk2
      have hr := iw_ict wk_q107 (show wk_at wk_m107 7 23 3 18 0 0 = true by decide +kernel) (by rw [r_c3 (by omega) (by omega)]; exact decide_eq_true (by show 17 / 8 ≤ k; omega)) hr
      have hr := iw_st wk_q107 (show wk_at wk_m107 18 1 34359738361 1 0 0 = true by decide +kernel) hr rfl
      exact iw_en wk_q107 (show wk_at wk_m107 19 44 0 0 0 0 = true by decide +kernel) hr rfl
  · have hr := iw_ict wk_q107 (show wk_at wk_m107 2 23 3 20 0 0 = true by decide +kernel) (by rw [r_c3 (by omega) (by omega)]; exact decide_eq_true (by show 33 / 8 ≤ n; omega)) hr
    have hr := iw_st wk_q107 (show wk_at wk_m107 20 2 1 1 0 0 = true by decide +kernel) hr rfl
    have hr := iw_st wk_q107 (show wk_at wk_m107 21 1 33 1 0 0 = true by decide +kernel) hr rfl
    by_cases hk2 : k < r_ct n
    · rw [if_pos hk2]
      have hk3 : k < 4 := by unfold r_ct at hk2; rw [if_neg h4] at hk2; exact hk2
      have hr := iw_icf wk_q107 (show wk_at wk_m107 22 23 3 35 0 0 = true by decide +kernel) (by rw [r_c3 (by omega) (by omega)]; exact decide_eq_false (by show ¬ 33 / 8 ≤ k; omega)) hr
      have hr := iw_st wk_q107 (show wk_at wk_m107 25 1 17 1 0 0 = true by decide +kernel) hr rfl
      have hr := iw_st wk_q107 (show wk_at wk_m107 26 2 1 1 0 0 = true by decide +kernel) hr rfl
      have hr := iw_st wk_q107 (show wk_at wk_m107 27 9 0 0 0 0 = true by decide +kernel) hr rfl
      have hr := iw_st wk_q107 (show wk_at wk_m107 28 2 0 1 0 0 = true by decide +kernel) hr rfl
      have hr := iw_st wk_q107 (show wk_at wk_m107 29 7 0 0 0 0 = true by decide +kernel) hr rfl
      have hr := iw_st wk_q107 (show wk_at wk_m107 30 1 33 1 0 0 = true by decide +kernel) hr rfl
      have hr := iw_st wk_q107 (show wk_at wk_m107 31 8 0 0 0 0 = true by decide +kernel) hr rfl
      rw [show Int32.ofNat (17 / 8) * Int32.ofNat k + Int32.ofNat n - Int32.ofNat (33 / 8) = Int32.ofNat (r_lk n (r_nk n k)) from by rw [r_mul (by omega) (by omega), r_add (by omega) (by omega), r_sub (by omega) (by omega)]; congr 1; unfold r_lk r_nk; rw [if_neg h4, if_neg h4]] at hr
      have hr := iw_st wk_q107 (show wk_at wk_m107 32 21 36 0 0 0 = true by decide +kernel) hr rfl
      exact iw_en wk_q107 (show wk_at wk_m107 36 44 0 0 0 0 = true by decide +kernel) hr rfl
    · rw [if_neg hk2]
      have hk3 : ¬ k < 4 := by unfold r_ct at hk2; rw [if_neg h4] at hk2; exact hk2
      have hr := iw_ict wk_q107 (show wk_at wk_m107 22 23 3 35 0 0 = true by decide +kernel) (by rw [r_c3 (by omega) (by omega)]; exact decide_eq_true (by show 33 / 8 ≤ k; omega)) hr
      have hr := iw_st wk_q107 (show wk_at wk_m107 35 1 34359738361 1 0 0 = true by decide +kernel) hr rfl
      exact iw_en wk_q107 (show wk_at wk_m107 36 44 0 0 0 0 = true by decide +kernel) hr rfl
set_option maxRecDepth 100000 in
theorem r_hrd {c : Nat → Nat} {w : Nat → Nat → Nat → Nat} {dn : Nat → Nat} {h : am_H} (h16 : r_16 w) (h01 : r_01 dn) (hdd : r_dd w dn) (hR : rr_I c w dn h) {n k l : Nat} (hn : n < 6) (hk : k < r_ct n) (hl : l < 4) {r : am_R} (hr : Rd am_m98 (0, [some (.ref (c 23)), some (.int (Int32.ofNat n)), some (.int (Int32.ofNat k)), some (.int (Int32.ofNat l)), none], [], h, 0, 0) r) : r = (.inl (some (.int (Int32.ofNat (w n (r_nk n k) l)))), h, 0, 0) := by
  obtain ⟨⟨⟨nf, c23⟩, f5, f6⟩, c24, c25, sN, sT⟩ := hR
  have hb := r_nkb hn hk
  obtain ⟨hm1, hm2, hm3, hm8⟩ := r_nb6 hb
  have hk4 := r_ct4 n
  have hr := iw_st wk_q98 (show wk_at wk_m98 0 2 1 1 0 0 = true by decide +kernel) hr rfl
  have hr := iw_st wk_q98 (show wk_at wk_m98 1 2 2 1 0 0 = true by decide +kernel) hr rfl
  obtain ⟨x1, hx1, hcx1⟩ := iw_is (as := [.int (Int32.ofNat n), .int (Int32.ofNat k)]) (r := []) wk_q98 (show wk_at wk_m98 2 40 107 2 0 0 = true by decide +kernel) rfl rfl (Nat.le_of_ble_eq_true rfl) (mj := am_m107) rfl hr
  have hqx1 := r_lo hn (by omega) hx1
  subst hqx1
  obtain ⟨_, _, _, _, ex1, hr⟩ := iv_C_ret rfl hcx1
  cases ex1
  rw [if_pos hk] at hr
  have hr := iw_st wk_q98 (show wk_at wk_m98 5 4 4 2 0 0 = true by decide +kernel) hr rfl
  have hr := iw_st wk_q98 (show wk_at wk_m98 7 3 0 1 0 0 = true by decide +kernel) hr rfl
  have hr := rw_get wk_q98 (show wk_at wk_m98 8 25 9 5 0 0 = true by decide +kernel) c23 f5 hr
  have hr := iw_st wk_q98 (show wk_at wk_m98 11 2 4 2 0 0 = true by decide +kernel) hr rfl
  generalize hL : r_lk n (r_nk n k) = L at hr hm8
  have hr := rw_bal wk_q98 (show wk_at wk_m98 13 28 0 0 0 0 = true by decide +kernel) c24 (by omega) (sN L hm8) hr
  rcases h01 L with e0 | e0
  · rw [e0] at hr
    have hr := iw_ift wk_q98 (show wk_at wk_m98 14 22 0 22 0 0 = true by decide +kernel) (by decide) hr
    have hr := iw_st wk_q98 (show wk_at wk_m98 22 3 0 1 0 0 = true by decide +kernel) hr rfl
    have hr := rw_get wk_q98 (show wk_at wk_m98 23 25 9 6 0 0 = true by decide +kernel) c23 f6 hr
    have hr := iw_st wk_q98 (show wk_at wk_m98 26 1 65 2 0 0 = true by decide +kernel) hr rfl
    have hr := iw_st wk_q98 (show wk_at wk_m98 28 2 4 2 0 0 = true by decide +kernel) hr rfl
    have hr := iw_st wk_q98 (show wk_at wk_m98 30 9 0 0 0 0 = true by decide +kernel) hr rfl
    rw [show Int32.ofNat (65 / 8) * Int32.ofNat L = Int32.ofNat (8 * L) from r_mul (by omega) (by omega)] at hr
    have hr := iw_st wk_q98 (show wk_at wk_m98 31 2 1 1 0 0 = true by decide +kernel) hr rfl
    have hr := iw_st wk_q98 (show wk_at wk_m98 32 1 33 1 0 0 = true by decide +kernel) hr rfl
    have hT := sT n (r_nk n k) l hb hl
    rw [hL] at hT
    by_cases h4 : n < 4
    · rw [if_pos h4] at hT
      have hr := iw_icf wk_q98 (show wk_at wk_m98 33 23 3 40 0 0 = true by decide +kernel) (by rw [r_c3 (by omega) (by omega)]; exact decide_eq_false (by show ¬ 33 / 8 ≤ n; omega)) hr
      have hr := iw_st wk_q98 (show wk_at wk_m98 36 1 1 1 0 0 = true by decide +kernel) hr rfl
      have hr := iw_st wk_q98 (show wk_at wk_m98 37 21 41 0 0 0 = true by decide +kernel) hr rfl
      have hr := iw_st wk_q98 (show wk_at wk_m98 41 7 0 0 0 0 = true by decide +kernel) hr rfl
      rw [show Int32.ofNat (8 * L) + Int32.ofNat (1 / 8) = Int32.ofNat (8 * L + 0) from r_add (by omega) (by omega)] at hr
      have hr := iw_st wk_q98 (show wk_at wk_m98 42 2 3 1 0 0 = true by decide +kernel) hr rfl
      have hr := iw_st wk_q98 (show wk_at wk_m98 43 7 0 0 0 0 = true by decide +kernel) hr rfl
      rw [r_add (by omega) (by omega)] at hr
      have hr := rw_ial wk_q98 (show wk_at wk_m98 44 27 0 0 0 0 = true by decide +kernel) c25 (by omega) hT hr
      exact iw_en wk_q98 (show wk_at wk_m98 45 44 0 0 0 0 = true by decide +kernel) hr rfl
    · rw [if_neg h4] at hT
      have hr := iw_ict wk_q98 (show wk_at wk_m98 33 23 3 40 0 0 = true by decide +kernel) (by rw [r_c3 (by omega) (by omega)]; exact decide_eq_true (by show 33 / 8 ≤ n; omega)) hr
      have hr := iw_st wk_q98 (show wk_at wk_m98 40 1 33 1 0 0 = true by decide +kernel) hr rfl
      have hr := iw_st wk_q98 (show wk_at wk_m98 41 7 0 0 0 0 = true by decide +kernel) hr rfl
      rw [show Int32.ofNat (8 * L) + Int32.ofNat (33 / 8) = Int32.ofNat (8 * L + 4) from r_add (by omega) (by omega)] at hr
      have hr := iw_st wk_q98 (show wk_at wk_m98 42 2 3 1 0 0 = true by decide +kernel) hr rfl
      have hr := iw_st wk_q98 (show wk_at wk_m98 43 7 0 0 0 0 = true by decide +kernel) hr rfl
      rw [r_add (by omega) (by omega)] at hr
      have hr := rw_ial wk_q98 (show wk_at wk_m98 44 27 0 0 0 0 = true by decide +kernel) c25 (by omega) hT hr
      exact iw_en wk_q98 (show wk_at wk_m98 45 44 0 0 0 0 = true by decide +kernel) hr rfl
  · rw [e0] at hr
    have hr := iw_iff wk_q98 (show wk_at wk_m98 14 22 0 22 0 0 = true by decide +kernel) (by decide) hr
    have hr := iw_st wk_q98 (show wk_at wk_m98 17 1 129 2 0 0 = true by decide +kernel) hr rfl
    have hr := iw_st wk_q98 (show wk_at wk_m98 19 21 45 0 0 0 = true by decide +kernel) hr rfl
    rw [hdd n (r_nk n k) l hb (by rw [hL]; exact e0)]
    exact iw_en wk_q98 (show wk_at wk_m98 45 44 0 0 0 0 = true by decide +kernel) hr rfl
/-- the least of what is heard, behind k neighbours -/
def r_ls (g : Nat → Nat) (n : Nat) : Nat → Nat
  | 0 => 15
  | k + 1 => if g (r_nk n k) < r_ls g n k then g (r_nk n k) else r_ls g n k
theorem r_ls15 (g : Nat → Nat) (n : Nat) : ∀ k, r_ls g n k ≤ 15
  | 0 => by show 15 ≤ 15; omega
  | k + 1 => by
    have := r_ls15 g n k
    unfold r_ls
    split <;> omega
theorem r_fs1 (v j : Nat) (p : Nat × Nat) : (r_fs v j p).1 = if v < p.1 then v else p.1 := by
  unfold r_fs
  by_cases e : v < p.1
  · rw [if_pos e, if_pos e]
  · rw [if_neg e, if_neg e]
    split <;> rfl
theorem r_lsf (g : Nat → Nat) (n : Nat) : r_ls g n (r_ct n) = (r_f g n).1 := by
  unfold r_f r_ct
  by_cases e : n < 4
  · rw [if_pos e, if_pos e]
    simp only [r_ls, r_fs1, r_nk, if_pos e]
  · rw [if_neg e, if_neg e]
    simp only [r_ls, r_fs1, r_nk, if_neg e]
set_option maxRecDepth 100000 in
theorem r_dist {c : Nat → Nat} {w : Nat → Nat → Nat → Nat} {dn : Nat → Nat} {h : am_H} (h16 : r_16 w) (h01 : r_01 dn) (hdd : r_dd w dn) (hR : rr_I c w dn h) {n l : Nat} (hn : n < 6) (hl : l < 4) {r : am_R} (hr : Rd am_m89 (0, [some (.ref (c 23)), some (.int (Int32.ofNat n)), some (.int (Int32.ofNat l)), none, none], [], h, 0, 0) r) : r = (.inl (some (.int (Int32.ofNat (r_d w n l)))), h, 0, 0) := by
  obtain ⟨⟨⟨nf, c23⟩, f5, f6⟩, c24, c25, sN, sT⟩ := id hR
  have hk4 := r_ct4 n
  have hr := iw_st wk_q89 (show wk_at wk_m89 0 2 1 1 0 0 = true by decide +kernel) hr rfl
  have hr := iw_st wk_q89 (show wk_at wk_m89 1 2 2 1 0 0 = true by decide +kernel) hr rfl
  by_cases enl : n = l
  · have hr := iw_icf wk_q89 (show wk_at wk_m89 2 23 1 7 0 0 = true by decide +kernel) (by rw [r_c1 (by omega) (by omega)]; exact by rw [decide_eq_true enl]; rfl) hr
    have hr := iw_st wk_q89 (show wk_at wk_m89 5 1 1 1 0 0 = true by decide +kernel) hr rfl
    have e0 : r_d w n l = 0 := by unfold r_d; rw [if_pos enl.symm]
    rw [e0]
    exact iw_en wk_q89 (show wk_at wk_m89 6 44 0 0 0 0 = true by decide +kernel) hr rfl
  have hr := iw_ict wk_q89 (show wk_at wk_m89 2 23 1 7 0 0 = true by decide +kernel) (by rw [r_c1 (by omega) (by omega)]; exact by rw [decide_eq_false enl]; rfl) hr
  have hr := iw_st wk_q89 (show wk_at wk_m89 7 1 121 2 0 0 = true by decide +kernel) hr rfl
  have hr := iw_st wk_q89 (show wk_at wk_m89 9 4 3 1 0 0 = true by decide +kernel) hr rfl
  have hr := iw_st wk_q89 (show wk_at wk_m89 10 1 1 1 0 0 = true by decide +kernel) hr rfl
  have hr := iw_st wk_q89 (show wk_at wk_m89 11 4 4 2 0 0 = true by decide +kernel) hr rfl
  have fin : Rd am_m89 (59, [some (.ref (c 23)), some (.int (Int32.ofNat n)), some (.int (Int32.ofNat l)), some (.int (Int32.ofNat (r_ls (fun j => w n j l) n (r_ct n)))), some (.int (Int32.ofNat (r_ct n)))], [], h, 0, 0) r → r = (.inl (some (.int (Int32.ofNat (r_d w n l)))), h, 0, 0) := fun hr => by
    have e15 := r_ls15 (fun j => w n j l) n (r_ct n)
    have hr := iw_st wk_q89 (show wk_at wk_m89 59 2 3 1 0 0 = true by decide +kernel) hr rfl
    have hr := iw_st wk_q89 (show wk_at wk_m89 60 1 9 1 0 0 = true by decide +kernel) hr rfl
    have hr := iw_st wk_q89 (show wk_at wk_m89 61 7 0 0 0 0 = true by decide +kernel) hr rfl
    rw [show Int32.ofNat (r_ls (fun j => w n j l) n (r_ct n)) + Int32.ofNat (9 / 8) = Int32.ofNat (r_d w n l) from by rw [r_add (by omega) (by omega), r_lsf]; congr 1; unfold r_d; rw [if_neg (Ne.symm enl)]] at hr
    exact iw_en wk_q89 (show wk_at wk_m89 62 44 0 0 0 0 = true by decide +kernel) hr rfl
  have loop : ∀ d k, k + d = r_ct n → Rd am_m89 (13, [some (.ref (c 23)), some (.int (Int32.ofNat n)), some (.int (Int32.ofNat l)), some (.int (Int32.ofNat (r_ls (fun j => w n j l) n k))), some (.int (Int32.ofNat k))], [], h, 0, 0) r → r = (.inl (some (.int (Int32.ofNat (r_d w n l)))), h, 0, 0) := by
    intro d
    induction d with
    | zero =>
      intro k hd hr
      have ek : k = r_ct n := by omega
      subst ek
      have hr := iw_st wk_q89 (show wk_at wk_m89 13 2 4 2 0 0 = true by decide +kernel) hr rfl
      have hr := iw_st wk_q89 (show wk_at wk_m89 15 1 33 1 0 0 = true by decide +kernel) hr rfl
      by_cases e4 : r_ct n = 4
      · have hr := iw_ict wk_q89 (show wk_at wk_m89 16 23 3 59 0 0 = true by decide +kernel) (by rw [r_c3 (by omega) (by omega)]; exact decide_eq_true (by show 33 / 8 ≤ r_ct n; omega)) hr
        exact fin hr
      · have hr := iw_icf wk_q89 (show wk_at wk_m89 16 23 3 59 0 0 = true by decide +kernel) (by rw [r_c3 (by omega) (by omega)]; exact decide_eq_false (by show ¬ 33 / 8 ≤ r_ct n; omega)) hr
        have hr := iw_st wk_q89 (show wk_at wk_m89 19 2 1 1 0 0 = true by decide +kernel) hr rfl
        have hr := iw_st wk_q89 (show wk_at wk_m89 20 2 4 2 0 0 = true by decide +kernel) hr rfl
        obtain ⟨x1, hx1, hcx1⟩ := iw_is (as := [.int (Int32.ofNat n), .int (Int32.ofNat (r_ct n))]) (r := []) wk_q89 (show wk_at wk_m89 22 40 107 2 0 0 = true by decide +kernel) rfl rfl (Nat.le_of_ble_eq_true rfl) (mj := am_m107) rfl hr
        have hqx1 := r_lo hn (by omega) hx1
        subst hqx1
        obtain ⟨_, _, _, _, ex1, hr⟩ := iv_C_ret rfl hcx1
        cases ex1
        rw [if_neg (Nat.lt_irrefl _)] at hr
        have hr := iw_ift wk_q89 (show wk_at wk_m89 25 22 2 59 0 0 = true by decide +kernel) (by decide) hr
        exact fin hr
    | succ d ih =>
      intro k hd hr
      have hk : k < r_ct n := by omega
      obtain ⟨hm1, hm2, hm3, hm8⟩ := r_nb6 (r_nkb hn hk)
      have inc : Int32.ofNat k + Int32.ofNat 1 = Int32.ofNat (k + 1) := r_add (by omega) (by omega)
      have e15 := r_ls15 (fun j => w n j l) n k
      have w16 := h16 n (r_nk n k) l
      have hr := iw_st wk_q89 (show wk_at wk_m89 13 2 4 2 0 0 = true by decide +kernel) hr rfl
      have hr := iw_st wk_q89 (show wk_at wk_m89 15 1 33 1 0 0 = true by decide +kernel) hr rfl
      have hr := iw_icf wk_q89 (show wk_at wk_m89 16 23 3 59 0 0 = true by decide +kernel) (by rw [r_c3 (by omega) (by omega)]; exact decide_eq_false (by show ¬ 33 / 8 ≤ k; omega)) hr
      have hr := iw_st wk_q89 (show wk_at wk_m89 19 2 1 1 0 0 = true by decide +kernel) hr rfl
      have hr := iw_st wk_q89 (show wk_at wk_m89 20 2 4 2 0 0 = true by decide +kernel) hr rfl
      obtain ⟨x1, hx1, hcx1⟩ := iw_is (as := [.int (Int32.ofNat n), .int (Int32.ofNat k)]) (r := []) wk_q89 (show wk_at wk_m89 22 40 107 2 0 0 = true by decide +kernel) rfl rfl (Nat.le_of_ble_eq_true rfl) (mj := am_m107) rfl hr
      have hqx1 := r_lo hn (by omega) hx1
      subst hqx1
      obtain ⟨_, _, _, _, ex1, hr⟩ := iv_C_ret rfl hcx1
      cases ex1
      rw [if_pos hk] at hr
      have hr := iw_iff wk_q89 (show wk_at wk_m89 25 22 2 59 0 0 = true by decide +kernel) (by rw [show (0 : Int32) = Int32.ofNat 0 from rfl, r_c2 (by omega) (by omega)]; exact decide_eq_false (by omega)) hr
      have hr := iw_st wk_q89 (show wk_at wk_m89 28 3 0 1 0 0 = true by decide +kernel) hr rfl
      have hr := iw_st wk_q89 (show wk_at wk_m89 29 2 1 1 0 0 = true by decide +kernel) hr rfl
      have hr := iw_st wk_q89 (show wk_at wk_m89 30 2 4 2 0 0 = true by decide +kernel) hr rfl
      have hr := iw_st wk_q89 (show wk_at wk_m89 32 2 2 1 0 0 = true by decide +kernel) hr rfl
      obtain ⟨x2, hx2, hcx2⟩ := rw_iv (as := [.int (Int32.ofNat n), .int (Int32.ofNat k), .int (Int32.ofNat l)]) (r := []) wk_q89 (show wk_at wk_m89 33 40 98 3 2 9 = true by decide +kernel) c23 rfl rfl (Nat.le_of_ble_eq_true rfl) (mj := am_m98) rfl hr
      have hqx2 := r_hrd h16 h01 hdd hR hn hk hl hx2
      subst hqx2
      obtain ⟨_, _, _, _, ex2, hr⟩ := iv_C_ret rfl hcx2
      cases ex2
      have hr := iw_st wk_q89 (show wk_at wk_m89 36 2 3 1 0 0 = true by decide +kernel) hr rfl
      have es : r_ls (fun j => w n j l) n (k + 1) = if w n (r_nk n k) l < r_ls (fun j => w n j l) n k then w n (r_nk n k) l else r_ls (fun j => w n j l) n k := rfl
      by_cases ev : w n (r_nk n k) l < r_ls (fun j => w n j l) n k
      · have hr := iw_icf wk_q89 (show wk_at wk_m89 37 23 3 51 0 0 = true by decide +kernel) (by rw [r_c3 (by omega) (by omega)]; exact decide_eq_false (by omega)) hr
        have hr := iw_st wk_q89 (show wk_at wk_m89 40 3 0 1 0 0 = true by decide +kernel) hr rfl
        have hr := iw_st wk_q89 (show wk_at wk_m89 41 2 1 1 0 0 = true by decide +kernel) hr rfl
        have hr := iw_st wk_q89 (show wk_at wk_m89 42 2 4 2 0 0 = true by decide +kernel) hr rfl
        have hr := iw_st wk_q89 (show wk_at wk_m89 44 2 2 1 0 0 = true by decide +kernel) hr rfl
        obtain ⟨x3, hx3, hcx3⟩ := rw_iv (as := [.int (Int32.ofNat n), .int (Int32.ofNat k), .int (Int32.ofNat l)]) (r := []) wk_q89 (show wk_at wk_m89 45 40 98 3 2 9 = true by decide +kernel) c23 rfl rfl (Nat.le_of_ble_eq_true rfl) (mj := am_m98) rfl hr
        have hqx3 := r_hrd h16 h01 hdd hR hn hk hl hx3
        subst hqx3
        obtain ⟨_, _, _, _, ex3, hr⟩ := iv_C_ret rfl hcx3
        cases ex3
        have hr := iw_st wk_q89 (show wk_at wk_m89 48 21 52 0 0 0 = true by decide +kernel) hr rfl
        have hr := iw_st wk_q89 (show wk_at wk_m89 52 4 3 1 0 0 = true by decide +kernel) hr rfl
        have hr := iw_st wk_q89 (show wk_at wk_m89 53 6 4 1 0 0 = true by decide +kernel) hr rfl
        rw [inc] at hr
        have hr := iw_st wk_q89 (show wk_at wk_m89 56 21 13 0 0 0 = true by decide +kernel) hr rfl
        rw [if_pos ev] at es
        rw [← es] at hr
        exact ih (k + 1) (by omega) hr
      · have hr := iw_ict wk_q89 (show wk_at wk_m89 37 23 3 51 0 0 = true by decide +kernel) (by rw [r_c3 (by omega) (by omega)]; exact decide_eq_true (by omega)) hr
        have hr := iw_st wk_q89 (show wk_at wk_m89 51 2 3 1 0 0 = true by decide +kernel) hr rfl
        have hr := iw_st wk_q89 (show wk_at wk_m89 52 4 3 1 0 0 = true by decide +kernel) hr rfl
        have hr := iw_st wk_q89 (show wk_at wk_m89 53 6 4 1 0 0 = true by decide +kernel) hr rfl
        rw [inc] at hr
        have hr := iw_st wk_q89 (show wk_at wk_m89 56 21 13 0 0 0 = true by decide +kernel) hr rfl
        rw [if_neg ev] at es
        rw [← es] at hr
        exact ih (k + 1) (by omega) hr
  exact loop (r_ct n) 0 (by omega) hr
set_option maxRecDepth 100000 in
theorem r_ihp {c : Nat → Nat} {w : Nat → Nat → Nat → Nat} {dn : Nat → Nat} {h : am_H} (h16 : r_16 w) (h01 : r_01 dn) (hdd : r_dd w dn) (hR : rr_I c w dn h) {n k l : Nat} (hn : n < 6) (hk : k < r_ct n) (hl : l < 4) {r : am_R} (hr : Rd am_m102 (0, [some (.ref (c 23)), some (.int (Int32.ofNat n)), some (.int (Int32.ofNat k)), some (.int (Int32.ofNat l)), none], [], h, 0, 0) r) : r = (.inl (some (.int (Int32.ofNat (if r_hb (r_h w n l) (r_nk n k) = true then 1 else 0)))), h, 0, 0) := by
  obtain ⟨⟨⟨nf, c23⟩, f5, f6⟩, c24, c25, sN, sT⟩ := id hR
  have hb := r_nkb hn hk
  obtain ⟨hm1, hm2, hm3, hm8⟩ := r_nb6 hb
  have hk4 := r_ct4 n
  have d16 := r_d16 w n l
  have hH := r_hop w hn (l := l) hm2
  have hr := iw_st wk_q102 (show wk_at wk_m102 0 3 0 1 0 0 = true by decide +kernel) hr rfl
  have hr := iw_st wk_q102 (show wk_at wk_m102 1 2 1 1 0 0 = true by decide +kernel) hr rfl
  have hr := iw_st wk_q102 (show wk_at wk_m102 2 2 3 1 0 0 = true by decide +kernel) hr rfl
  obtain ⟨x1, hx1, hcx1⟩ := rw_iv (as := [.int (Int32.ofNat n), .int (Int32.ofNat l)]) (r := []) wk_q102 (show wk_at wk_m102 3 40 89 2 2 9 = true by decide +kernel) c23 rfl rfl (Nat.le_of_ble_eq_true rfl) (mj := am_m89) rfl hr
  have hqx1 := r_dist h16 h01 hdd hR hn hl hx1
  subst hqx1
  obtain ⟨_, _, _, _, ex1, hr⟩ := iv_C_ret rfl hcx1
  cases ex1
  have hr := iw_st wk_q102 (show wk_at wk_m102 6 4 4 2 0 0 = true by decide +kernel) hr rfl
  have hr := iw_st wk_q102 (show wk_at wk_m102 8 2 4 2 0 0 = true by decide +kernel) hr rfl
  by_cases e0 : r_d w n l = 0
  · have hr := iw_ift wk_q102 (show wk_at wk_m102 10 22 5 51 0 0 = true by decide +kernel) (by rw [e0]; decide) hr
    have hf : ¬ r_hb (r_h w n l) (r_nk n k) = true := fun z => by have q := hH.mp z; omega
    rw [if_neg hf]
    have hr := iw_st wk_q102 (show wk_at wk_m102 51 1 1 1 0 0 = true by decide +kernel) hr rfl
    exact iw_en wk_q102 (show wk_at wk_m102 52 44 1 0 0 0 = true by decide +kernel) hr rfl
  have hr := iw_iff wk_q102 (show wk_at wk_m102 10 22 5 51 0 0 = true by decide +kernel) (by show decide (Int32.ofNat (r_d w n l) ≤ 0) = false; exact decide_eq_false (fun z => by have z := ab_b_lei.mp z; rw [r_b (by omega), ab_b_0] at z; omega)) hr
  have hr := iw_st wk_q102 (show wk_at wk_m102 13 2 4 2 0 0 = true by decide +kernel) hr rfl
  have hr := iw_st wk_q102 (show wk_at wk_m102 15 1 129 2 0 0 = true by decide +kernel) hr rfl
  by_cases e16 : r_d w n l = 16
  · have hr := iw_ict wk_q102 (show wk_at wk_m102 17 23 3 51 0 0 = true by decide +kernel) (by rw [r_c3 (by omega) (by omega)]; exact decide_eq_true (by show 129 / 8 ≤ r_d w n l; omega)) hr
    have hf : ¬ r_hb (r_h w n l) (r_nk n k) = true := fun z => by have q := hH.mp z; omega
    rw [if_neg hf]
    have hr := iw_st wk_q102 (show wk_at wk_m102 51 1 1 1 0 0 = true by decide +kernel) hr rfl
    exact iw_en wk_q102 (show wk_at wk_m102 52 44 1 0 0 0 = true by decide +kernel) hr rfl
  have hr := iw_icf wk_q102 (show wk_at wk_m102 17 23 3 51 0 0 = true by decide +kernel) (by rw [r_c3 (by omega) (by omega)]; exact decide_eq_false (by show ¬ 129 / 8 ≤ r_d w n l; omega)) hr
  have hr := iw_st wk_q102 (show wk_at wk_m102 20 3 0 1 0 0 = true by decide +kernel) hr rfl
  have hr := rw_get wk_q102 (show wk_at wk_m102 21 25 9 5 0 0 = true by decide +kernel) c23 f5 hr
  have hr := iw_st wk_q102 (show wk_at wk_m102 24 2 1 1 0 0 = true by decide +kernel) hr rfl
  have hr := iw_st wk_q102 (show wk_at wk_m102 25 2 2 1 0 0 = true by decide +kernel) hr rfl
  obtain ⟨x2, hx2, hcx2⟩ := iw_is (as := [.int (Int32.ofNat n), .int (Int32.ofNat k)]) (r := [.ref (c 24)]) wk_q102 (show wk_at wk_m102 26 40 107 2 0 0 = true by decide +kernel) rfl rfl (Nat.le_of_ble_eq_true rfl) (mj := am_m107) rfl hr
  have hqx2 := r_lo hn (by omega) hx2
  subst hqx2
  obtain ⟨_, _, _, _, ex2, hr⟩ := iv_C_ret rfl hcx2
  cases ex2
  rw [if_pos hk] at hr
  have hr : Rd am_m102 (29, [some (.ref (c 23)), some (.int (Int32.ofNat n)), some (.int (Int32.ofNat k)), some (.int (Int32.ofNat l)), some (.int (Int32.ofNat (r_d w n l)))], [.int (Int32.ofNat (r_lk n (r_nk n k))), .ref (c 24)], h, 0, 0) r := hr
  have hr := rw_bal wk_q102 (show wk_at wk_m102 29 28 0 0 0 0 = true by decide +kernel) c24 (by omega) (sN _ hm8) hr
  rcases h01 (r_lk n (r_nk n k)) with ed | ed
  rotate_left
  · rw [ed] at hr
    have hr := iw_ift wk_q102 (show wk_at wk_m102 30 22 1 51 0 0 = true by decide +kernel) (by decide) hr
    have w16 := hdd n (r_nk n k) l hb ed
    have hf : ¬ r_hb (r_h w n l) (r_nk n k) = true := fun z => by have q := hH.mp z; omega
    rw [if_neg hf]
    have hr := iw_st wk_q102 (show wk_at wk_m102 51 1 1 1 0 0 = true by decide +kernel) hr rfl
    exact iw_en wk_q102 (show wk_at wk_m102 52 44 1 0 0 0 = true by decide +kernel) hr rfl
  rw [ed] at hr
  have hr := iw_iff wk_q102 (show wk_at wk_m102 30 22 1 51 0 0 = true by decide +kernel) (by decide) hr
  have w16 := h16 n (r_nk n k) l
  have hr := iw_st wk_q102 (show wk_at wk_m102 33 3 0 1 0 0 = true by decide +kernel) hr rfl
  have hr := iw_st wk_q102 (show wk_at wk_m102 34 2 1 1 0 0 = true by decide +kernel) hr rfl
  have hr := iw_st wk_q102 (show wk_at wk_m102 35 2 2 1 0 0 = true by decide +kernel) hr rfl
  have hr := iw_st wk_q102 (show wk_at wk_m102 36 2 3 1 0 0 = true by decide +kernel) hr rfl
  obtain ⟨x3, hx3, hcx3⟩ := rw_iv (as := [.int (Int32.ofNat n), .int (Int32.ofNat k), .int (Int32.ofNat l)]) (r := []) wk_q102 (show wk_at wk_m102 37 40 98 3 2 9 = true by decide +kernel) c23 rfl rfl (Nat.le_of_ble_eq_true rfl) (mj := am_m98) rfl hr
  have hqx3 := r_hrd h16 h01 hdd hR hn hk hl hx3
  subst hqx3
  obtain ⟨_, _, _, _, ex3, hr⟩ := iv_C_ret rfl hcx3
  cases ex3
  have hr := iw_st wk_q102 (show wk_at wk_m102 40 2 4 2 0 0 = true by decide +kernel) hr rfl
  have hr := iw_st wk_q102 (show wk_at wk_m102 42 1 9 1 0 0 = true by decide +kernel) hr rfl
  have hr := iw_st wk_q102 (show wk_at wk_m102 43 8 0 0 0 0 = true by decide +kernel) hr rfl
  rw [show Int32.ofNat (r_d w n l) - Int32.ofNat (9 / 8) = Int32.ofNat (r_d w n l - 1) from r_sub (by omega) (by omega)] at hr
  by_cases ew : w n (r_nk n k) l = r_d w n l - 1
  · have hnl : l ≠ n := fun z => e0 (by unfold r_d; rw [if_pos z])
    have hr := iw_icf wk_q102 (show wk_at wk_m102 44 23 1 51 0 0 = true by decide +kernel) (by rw [r_c1 (by omega) (by omega)]; exact by rw [decide_eq_true ew]; rfl) hr
    rw [if_pos (hH.mpr ⟨hb, hnl, by omega, by omega⟩)]
    have hr := iw_st wk_q102 (show wk_at wk_m102 47 1 9 1 0 0 = true by decide +kernel) hr rfl
    have hr := iw_st wk_q102 (show wk_at wk_m102 48 21 52 0 0 0 = true by decide +kernel) hr rfl
    exact iw_en wk_q102 (show wk_at wk_m102 52 44 1 0 0 0 = true by decide +kernel) hr rfl
  · have hr := iw_ict wk_q102 (show wk_at wk_m102 44 23 1 51 0 0 = true by decide +kernel) (by rw [r_c1 (by omega) (by omega)]; exact by rw [decide_eq_false ew]; rfl) hr
    have hf : ¬ r_hb (r_h w n l) (r_nk n k) = true := fun z => by have q := hH.mp z; omega
    rw [if_neg hf]
    have hr := iw_st wk_q102 (show wk_at wk_m102 51 1 1 1 0 0 = true by decide +kernel) hr rfl
    exact iw_en wk_q102 (show wk_at wk_m102 52 44 1 0 0 0 = true by decide +kernel) hr rfl
/-- one entry told anew -/
def r_w1 (w : Nat → Nat → Nat → Nat) (m n l v : Nat) : Nat → Nat → Nat → Nat := fun a j k => if a = m ∧ j = n ∧ k = l then v else w a j k
theorem rr_e {c : Nat → Nat} {w w' : Nat → Nat → Nat → Nat} {dn : Nat → Nat} {h : am_H} (hR : rr_I c w dn h) (he : ∀ a j l, l < 4 → w' a j l = w a j l) : rr_I c w' dn h := ⟨hR.1, hR.2.1, hR.2.2.1, hR.2.2.2.1, fun n m l hb hl => by rw [he n m l hl]; exact hR.2.2.2.2 n m l hb hl⟩
theorem r_ix {a b l a' b' l' : Nat} (h1 : r_nb a b) (h2 : r_nb a' b') (hl : l < 4) (hl' : l' < 4) (e : 8 * r_lk a b + (if a < 4 then 0 else 4) + l = 8 * r_lk a' b' + (if a' < 4 then 0 else 4) + l') : a = a' ∧ b = b' ∧ l = l' := by
  unfold r_lk at e
  rcases h1 with ⟨p1, p2⟩ | ⟨p1, p2⟩ <;> rcases h2 with ⟨q1, q2⟩ | ⟨q1, q2⟩
  · rw [if_pos p1, if_pos p1, if_pos q1, if_pos q1] at e; omega
  · rw [if_pos p1, if_pos p1, if_neg (by omega), if_neg (by omega)] at e; omega
  · rw [if_neg (by omega), if_neg (by omega), if_pos q1, if_pos q1] at e; omega
  · rw [if_neg (by omega), if_neg (by omega), if_neg (by omega), if_neg (by omega)] at e; omega
theorem r_ixl {a b l : Nat} (h1 : r_nb a b) (hl : l < 4) : 8 * r_lk a b + (if a < 4 then 0 else 4) + l < 64 := by
  have := (r_nb6 h1).2.2.2
  split <;> omega
theorem rr_w {c : Nat → Nat} {w : Nat → Nat → Nat → Nat} {dn : Nat → Nat} {h h1 : am_H} {m n l v : Nat} (hj : rc_j c) (hR : rr_I c w dn h) (hb : r_nb m n) (hl : l < 4) (s1 : rv_S h h1) (v1 : ab_sl h1 = rv_u (ab_sl h) (c 25) (8 * r_lk m n + (if m < 4 then 0 else 4) + l) (.int (Int32.ofNat v))) : rr_I c (r_w1 w m n l v) dn h1 := by
  obtain ⟨⟨⟨nf, c23⟩, f5, f6⟩, c24, c25, sN, sT⟩ := hR
  refine ⟨⟨⟨nf, s1 _ _ _ c23⟩, by rw [v1, rv_ne (rc_n hj (i := 23) (j := 25) (by omega) (by omega) (by omega))]; exact f5, by rw [v1, rv_ne (rc_n hj (i := 23) (j := 25) (by omega) (by omega) (by omega))]; exact f6⟩, s1 _ _ _ c24, s1 _ _ _ c25, fun i hi => by rw [v1, rv_ne (rc_n hj (i := 24) (j := 25) (by omega) (by omega) (by omega))]; exact sN i hi, fun a b k hab hk => ?_⟩
  unfold r_w1
  rw [v1]
  by_cases e : a = m ∧ b = n ∧ k = l
  · obtain ⟨rfl, rfl, rfl⟩ := e
    rw [rv_eq, if_pos ⟨rfl, rfl, rfl⟩]
  · rw [if_neg e, rv_nj (fun z => e (r_ix hab hb hk hl z))]
    exact sT a b k hab hk
/-- a column before leaf k -/
def r_pw (w : Nat → Nat → Nat → Nat) (m n : Nat) (f : Nat → Nat) (k : Nat) : Nat → Nat → Nat → Nat := fun a j l => if a = m ∧ j = n ∧ l < k then f l else w a j l
theorem r_pwn {w : Nat → Nat → Nat → Nat} {m n a k : Nat} {f : Nat → Nat} (h : a ≠ m) : r_pw w m n f k a = w a := by
  funext j l
  exact if_neg (fun z => h z.1)
theorem r_pw16 {w : Nat → Nat → Nat → Nat} {m n k : Nat} {f : Nat → Nat} (hw : r_16 w) (hf : ∀ l, f l ≤ 16) : r_16 (r_pw w m n f k) := fun a j l => by
  unfold r_pw
  split
  · exact hf l
  · exact hw a j l
theorem r_pwd {w : Nat → Nat → Nat → Nat} {dn : Nat → Nat} {m n k : Nat} {f : Nat → Nat} (hd : r_dd w dn) (h0 : dn (r_lk m n) = 0) : r_dd (r_pw w m n f k) dn := fun a j l hb h1 => by
  unfold r_pw
  rw [if_neg (fun z => by rw [z.1, z.2.1, h0] at h1; cases h1)]
  exact hd a j l hb h1
theorem r_asd {w : Nat → Nat → Nat → Nat} {dn : Nat → Nat} {n m : Nat} (hb : r_nb n m) (hd : r_dd w dn) : r_dd (r_as w dn n m) dn := by
  unfold r_as
  split
  · rename_i h0
    intro a j l hb2 h1
    unfold r_wt
    rw [if_neg (fun z => by rw [z.1, z.2, (r_nbs hb).2, h0] at h1; cases h1)]
    exact hd a j l hb2 h1
  · exact hd
set_option maxRecDepth 100000 in
theorem r_ra1 {c : Nat → Nat} {w : Nat → Nat → Nat → Nat} {dn : Nat → Nat} {h : am_H} (hj : rc_j c) (h16 : r_16 w) (h01 : r_01 dn) (hdd : r_dd w dn) (hR : rr_I c w dn h) {n k m : Nat} (hn : n < 6) (hk : k < r_ct n) (hm : r_nk n k = m) {o3 o4 : Option Value} {r : am_R} (hr : Rd am_m82 (2, [some (.ref (c 23)), some (.int (Int32.ofNat n)), some (.int (Int32.ofNat k)), o3, o4], [], h, 0, 0) r) : ∃ h' o3 o4, rr_I c (r_as w dn n m) dn h' ∧ Rd am_m82 (2, [some (.ref (c 23)), some (.int (Int32.ofNat n)), some (.int (Int32.ofNat (k + 1))), o3, o4], [], h', 0, 0) r := by
  have hb := r_nkb hn hk
  have em : r_nk n k = m := hm
  rw [em] at hb
  obtain ⟨hn6, hm6, hnm, hm8⟩ := r_nb6 hb
  obtain ⟨hbs, hls⟩ := r_nbs hb
  have hk4 := r_ct4 n
  have inc2 : Int32.ofNat k + Int32.ofNat 1 = Int32.ofNat (k + 1) := r_add (by omega) (by omega)
  have inner : dn (r_lk n m) = 0 → ∀ d l hx, l + d = 4 → rr_I c (r_pw w m n (r_tf w n m) l) dn hx → Rd am_m82 (24, [some (.ref (c 23)), some (.int (Int32.ofNat n)), some (.int (Int32.ofNat k)), some (.int (Int32.ofNat (r_lk n m))), some (.int (Int32.ofNat l))], [], hx, 0, 0) r → ∃ h' o3 o4, rr_I c (r_wt w m n (r_tf w n m)) dn h' ∧ Rd am_m82 (2, [some (.ref (c 23)), some (.int (Int32.ofNat n)), some (.int (Int32.ofNat (k + 1))), o3, o4], [], h', 0, 0) r := by
    intro h0 d
    induction d with
    | zero =>
      intro l hx hd hR hr
      have e4 : l = 4 := by omega
      subst e4
      have hr := iw_st wk_q82 (show wk_at wk_m82 24 2 4 2 0 0 = true by decide +kernel) hr rfl
      have hr := iw_st wk_q82 (show wk_at wk_m82 26 1 33 1 0 0 = true by decide +kernel) hr rfl
      have hr := iw_ict wk_q82 (show wk_at wk_m82 27 23 3 91 0 0 = true by decide +kernel) (by rw [r_c3 (by omega) (by omega)]; exact decide_eq_true (by decide)) hr
      have hr := iw_st wk_q82 (show wk_at wk_m82 91 6 2 1 0 0 = true by decide +kernel) hr rfl
      rw [inc2] at hr
      have hr := iw_st wk_q82 (show wk_at wk_m82 94 21 2 0 0 0 = true by decide +kernel) hr rfl
      exact ⟨hx, _, _, rr_e hR (fun a j l hl => by unfold r_wt r_pw; by_cases z : a = m ∧ j = n; rw [if_pos z, if_pos ⟨z.1, z.2, hl⟩]; rw [if_neg z, if_neg (fun y => z ⟨y.1, y.2.1⟩)]), hr⟩
    | succ d ih =>
      intro l hx hd hR hr
      obtain ⟨⟨⟨nf, c23⟩, f5, f6⟩, c24, c25, sN, sT⟩ := id hR
      have inc : Int32.ofNat l + Int32.ofNat 1 = Int32.ofNat (l + 1) := r_add (by omega) (by omega)
      have hw16 : r_16 (r_pw w m n (r_tf w n m) l) := r_pw16 h16 (r_tf16 w n m)
      have hwd : r_dd (r_pw w m n (r_tf w n m) l) dn := r_pwd hdd (by rw [hls]; exact h0)
      obtain ⟨q1, q2⟩ := r_dw (w := w) (w' := r_pw w m n (r_tf w n m) l) (n := n) (r_pwn hnm) l
      have hr := iw_st wk_q82 (show wk_at wk_m82 24 2 4 2 0 0 = true by decide +kernel) hr rfl
      have hr := iw_st wk_q82 (show wk_at wk_m82 26 1 33 1 0 0 = true by decide +kernel) hr rfl
      have hr := iw_icf wk_q82 (show wk_at wk_m82 27 23 3 91 0 0 = true by decide +kernel) (by rw [r_c3 (by omega) (by omega)]; exact decide_eq_false (by show ¬ 33 / 8 ≤ l; omega)) hr
      have hr := iw_st wk_q82 (show wk_at wk_m82 30 3 0 1 0 0 = true by decide +kernel) hr rfl
      have hr := rw_get wk_q82 (show wk_at wk_m82 31 25 9 5 0 0 = true by decide +kernel) c23 f5 hr
      have hr := iw_st wk_q82 (show wk_at wk_m82 34 2 3 1 0 0 = true by decide +kernel) hr rfl
      have hr := rw_bal wk_q82 (show wk_at wk_m82 35 28 0 0 0 0 = true by decide +kernel) c24 (by omega) (sN _ hm8) hr
      rw [h0] at hr
      have hr := iw_iff wk_q82 (show wk_at wk_m82 36 22 1 91 0 0 = true by decide +kernel) (by decide) hr
      have hr := iw_st wk_q82 (show wk_at wk_m82 39 3 0 1 0 0 = true by decide +kernel) hr rfl
      have hr := rw_get wk_q82 (show wk_at wk_m82 40 25 9 6 0 0 = true by decide +kernel) c23 f6 hr
      have hr := iw_st wk_q82 (show wk_at wk_m82 43 1 65 2 0 0 = true by decide +kernel) hr rfl
      have hr := iw_st wk_q82 (show wk_at wk_m82 45 2 3 1 0 0 = true by decide +kernel) hr rfl
      have hr := iw_st wk_q82 (show wk_at wk_m82 46 9 0 0 0 0 = true by decide +kernel) hr rfl
      rw [show Int32.ofNat (65 / 8) * Int32.ofNat (r_lk n m) = Int32.ofNat (8 * r_lk n m) from r_mul (by omega) (by omega)] at hr
      have hr := iw_st wk_q82 (show wk_at wk_m82 47 2 1 1 0 0 = true by decide +kernel) hr rfl
      have hr := iw_st wk_q82 (show wk_at wk_m82 48 1 33 1 0 0 = true by decide +kernel) hr rfl
      have hr : Rd am_m82 (61, [some (.ref (c 23)), some (.int (Int32.ofNat n)), some (.int (Int32.ofNat k)), some (.int (Int32.ofNat (r_lk n m))), some (.int (Int32.ofNat l))], [.int (Int32.ofNat (8 * r_lk m n + (if m < 4 then 0 else 4) + l)), .ref (c 25)], hx, 0, 0) r := by
        rw [hls]
        by_cases h4 : n < 4
        · have hm4 : ¬ m < 4 := by rcases hb with y | y <;> omega
          rw [if_neg hm4]
          have hr := iw_icf wk_q82 (show wk_at wk_m82 49 23 3 56 0 0 = true by decide +kernel) (by rw [r_c3 (by omega) (by omega)]; exact decide_eq_false (by show ¬ 33 / 8 ≤ n; omega)) hr
          have hr := iw_st wk_q82 (show wk_at wk_m82 52 1 33 1 0 0 = true by decide +kernel) hr rfl
          have hr := iw_st wk_q82 (show wk_at wk_m82 53 21 57 0 0 0 = true by decide +kernel) hr rfl
          have hr := iw_st wk_q82 (show wk_at wk_m82 57 7 0 0 0 0 = true by decide +kernel) hr rfl
          rw [show Int32.ofNat (8 * r_lk n m) + Int32.ofNat (33 / 8) = Int32.ofNat (8 * r_lk n m + 4) from r_add (by omega) (by omega)] at hr
          have hr := iw_st wk_q82 (show wk_at wk_m82 58 2 4 2 0 0 = true by decide +kernel) hr rfl
          have hr := iw_st wk_q82 (show wk_at wk_m82 60 7 0 0 0 0 = true by decide +kernel) hr rfl
          rw [r_add (by omega) (by omega)] at hr
          exact hr
        · have hm4 : m < 4 := by rcases hb with y | y <;> omega
          rw [if_pos hm4]
          have hr := iw_ict wk_q82 (show wk_at wk_m82 49 23 3 56 0 0 = true by decide +kernel) (by rw [r_c3 (by omega) (by omega)]; exact decide_eq_true (by show 33 / 8 ≤ n; omega)) hr
          have hr := iw_st wk_q82 (show wk_at wk_m82 56 1 1 1 0 0 = true by decide +kernel) hr rfl
          have hr := iw_st wk_q82 (show wk_at wk_m82 57 7 0 0 0 0 = true by decide +kernel) hr rfl
          rw [show Int32.ofNat (8 * r_lk n m) + Int32.ofNat (1 / 8) = Int32.ofNat (8 * r_lk n m + 0) from r_add (by omega) (by omega)] at hr
          have hr := iw_st wk_q82 (show wk_at wk_m82 58 2 4 2 0 0 = true by decide +kernel) hr rfl
          have hr := iw_st wk_q82 (show wk_at wk_m82 60 7 0 0 0 0 = true by decide +kernel) hr rfl
          rw [r_add (by omega) (by omega)] at hr
          exact hr
      have hx64 := r_ixl hbs (l := l) (by omega)
      generalize hX : 8 * r_lk m n + (if m < 4 then 0 else 4) + l = X at hr hx64
      have hr := iw_st wk_q82 (show wk_at wk_m82 61 3 0 1 0 0 = true by decide +kernel) hr rfl
      have hr := iw_st wk_q82 (show wk_at wk_m82 62 2 1 1 0 0 = true by decide +kernel) hr rfl
      have hr := iw_st wk_q82 (show wk_at wk_m82 63 2 2 1 0 0 = true by decide +kernel) hr rfl
      have hr := iw_st wk_q82 (show wk_at wk_m82 64 2 4 2 0 0 = true by decide +kernel) hr rfl
      obtain ⟨x1, hx1, hcx1⟩ := rw_iv (as := [.int (Int32.ofNat n), .int (Int32.ofNat k), .int (Int32.ofNat l)]) (r := [.int (Int32.ofNat X), .ref (c 25)]) wk_q82 (show wk_at wk_m82 66 40 102 3 2 9 = true by decide +kernel) c23 rfl rfl (Nat.le_of_ble_eq_true rfl) (mj := am_m102) rfl hr
      have hqx1 := r_ihp hw16 h01 hwd hR hn hk (by omega) hx1
      subst hqx1
      obtain ⟨_, _, _, _, ex1, hr⟩ := iv_C_ret rfl hcx1
      cases ex1
      rw [em, q2] at hr
      have hr : Rd am_m82 (84, [some (.ref (c 23)), some (.int (Int32.ofNat n)), some (.int (Int32.ofNat k)), some (.int (Int32.ofNat (r_lk n m))), some (.int (Int32.ofNat l))], [.int (Int32.ofNat (r_tf w n m l)), .int (Int32.ofNat X), .ref (c 25)], hx, 0, 0) r := by
        unfold r_tf
        by_cases hh : r_hb (r_h w n l) m = true
        · rw [if_pos hh] at hr
          rw [if_pos hh]
          have hr := iw_iff wk_q82 (show wk_at wk_m82 69 22 0 77 0 0 = true by decide +kernel) (by decide) hr
          have hr := iw_st wk_q82 (show wk_at wk_m82 72 1 129 2 0 0 = true by decide +kernel) hr rfl
          have hr := iw_st wk_q82 (show wk_at wk_m82 74 21 84 0 0 0 = true by decide +kernel) hr rfl
          exact hr
        · rw [if_neg hh] at hr
          rw [if_neg hh]
          have hr := iw_ift wk_q82 (show wk_at wk_m82 69 22 0 77 0 0 = true by decide +kernel) (by decide) hr
          have hr := iw_st wk_q82 (show wk_at wk_m82 77 3 0 1 0 0 = true by decide +kernel) hr rfl
          have hr := iw_st wk_q82 (show wk_at wk_m82 78 2 1 1 0 0 = true by decide +kernel) hr rfl
          have hr := iw_st wk_q82 (show wk_at wk_m82 79 2 4 2 0 0 = true by decide +kernel) hr rfl
          obtain ⟨x2, hx2, hcx2⟩ := rw_iv (as := [.int (Int32.ofNat n), .int (Int32.ofNat l)]) (r := [.int (Int32.ofNat X), .ref (c 25)]) wk_q82 (show wk_at wk_m82 81 40 89 2 2 9 = true by decide +kernel) c23 rfl rfl (Nat.le_of_ble_eq_true rfl) (mj := am_m89) rfl hr
          have hqx2 := r_dist hw16 h01 hwd hR hn (by omega) hx2
          subst hqx2
          obtain ⟨_, _, _, _, ex2, hr⟩ := iv_C_ret rfl hcx2
          cases ex2
          rw [q1] at hr
          exact hr
      obtain ⟨h1, v1, s1, hr⟩ := rw_ias wk_q82 (show wk_at wk_m82 84 31 0 0 0 0 = true by decide +kernel) c25 hx64 (by omega) hr
      have hr := iw_st wk_q82 (show wk_at wk_m82 85 6 4 1 0 0 = true by decide +kernel) hr rfl
      rw [inc] at hr
      have hr := iw_st wk_q82 (show wk_at wk_m82 88 21 24 0 0 0 = true by decide +kernel) hr rfl
      refine ih (l + 1) h1 (by omega) (rr_e (rr_w (l := l) (v := r_tf w n m l) hj hR hbs (by omega) s1 (by rw [hX]; exact v1)) (fun a j k hk4 => ?_)) hr
      unfold r_w1 r_pw
      by_cases z : a = m ∧ j = n ∧ k = l
      · obtain ⟨rfl, rfl, rfl⟩ := z
        rw [if_pos ⟨rfl, rfl, by omega⟩, if_pos ⟨rfl, rfl, rfl⟩]
      · rw [if_neg z]
        by_cases y : a = m ∧ j = n ∧ k < l
        · rw [if_pos y, if_pos ⟨y.1, y.2.1, by omega⟩]
        · rw [if_neg y, if_neg (fun x => y ⟨x.1, x.2.1, by have := x.2.2; have : k ≠ l := fun t => z ⟨x.1, x.2.1, t⟩; omega⟩)]
  have hr := iw_st wk_q82 (show wk_at wk_m82 2 2 2 1 0 0 = true by decide +kernel) hr rfl
  have hr := iw_st wk_q82 (show wk_at wk_m82 3 1 33 1 0 0 = true by decide +kernel) hr rfl
  have hr := iw_icf wk_q82 (show wk_at wk_m82 4 23 3 97 0 0 = true by decide +kernel) (by rw [r_c3 (by omega) (by omega)]; exact decide_eq_false (by show ¬ 33 / 8 ≤ k; omega)) hr
  have hr := iw_st wk_q82 (show wk_at wk_m82 7 2 1 1 0 0 = true by decide +kernel) hr rfl
  have hr := iw_st wk_q82 (show wk_at wk_m82 8 2 2 1 0 0 = true by decide +kernel) hr rfl
  obtain ⟨x1, hx1, hcx1⟩ := iw_is (as := [.int (Int32.ofNat n), .int (Int32.ofNat k)]) (r := []) wk_q82 (show wk_at wk_m82 9 40 107 2 0 0 = true by decide +kernel) rfl rfl (Nat.le_of_ble_eq_true rfl) (mj := am_m107) rfl hr
  have hqx1 := r_lo hn (by omega) hx1
  subst hqx1
  obtain ⟨_, _, _, _, ex1, hr⟩ := iv_C_ret rfl hcx1
  cases ex1
  rw [if_pos hk, em] at hr
  have hr := iw_iff wk_q82 (show wk_at wk_m82 12 22 2 97 0 0 = true by decide +kernel) (by rw [show (0 : Int32) = Int32.ofNat 0 from rfl, r_c2 (by omega) (by omega)]; exact decide_eq_false (by omega)) hr
  have hr := iw_st wk_q82 (show wk_at wk_m82 15 2 1 1 0 0 = true by decide +kernel) hr rfl
  have hr := iw_st wk_q82 (show wk_at wk_m82 16 2 2 1 0 0 = true by decide +kernel) hr rfl
  obtain ⟨x2, hx2, hcx2⟩ := iw_is (as := [.int (Int32.ofNat n), .int (Int32.ofNat k)]) (r := []) wk_q82 (show wk_at wk_m82 17 40 107 2 0 0 = true by decide +kernel) rfl rfl (Nat.le_of_ble_eq_true rfl) (mj := am_m107) rfl hr
  have hqx2 := r_lo hn (by omega) hx2
  subst hqx2
  obtain ⟨_, _, _, _, ex2, hr⟩ := iv_C_ret rfl hcx2
  cases ex2
  rw [if_pos hk, em] at hr
  have hr := iw_st wk_q82 (show wk_at wk_m82 20 4 3 1 0 0 = true by decide +kernel) hr rfl
  have hr := iw_st wk_q82 (show wk_at wk_m82 21 1 1 1 0 0 = true by decide +kernel) hr rfl
  have hr := iw_st wk_q82 (show wk_at wk_m82 22 4 4 2 0 0 = true by decide +kernel) hr rfl
  unfold r_as
  rcases h01 (r_lk n m) with h0 | h0
  · rw [if_pos h0]
    exact inner h0 4 0 h (by omega) (rr_e hR (fun a j l hl => if_neg (fun z => absurd z.2.2 (Nat.not_lt_zero _)))) hr
  · rw [if_neg (by omega)]
    obtain ⟨⟨⟨nf, c23⟩, f5, f6⟩, c24, c25, sN, sT⟩ := id hR
    have hr := iw_st wk_q82 (show wk_at wk_m82 24 2 4 2 0 0 = true by decide +kernel) hr rfl
    have hr := iw_st wk_q82 (show wk_at wk_m82 26 1 33 1 0 0 = true by decide +kernel) hr rfl
    have hr := iw_icf wk_q82 (show wk_at wk_m82 27 23 3 91 0 0 = true by decide +kernel) (by rw [r_c3 (by omega) (by omega)]; exact decide_eq_false (by decide)) hr
    have hr := iw_st wk_q82 (show wk_at wk_m82 30 3 0 1 0 0 = true by decide +kernel) hr rfl
    have hr := rw_get wk_q82 (show wk_at wk_m82 31 25 9 5 0 0 = true by decide +kernel) c23 f5 hr
    have hr := iw_st wk_q82 (show wk_at wk_m82 34 2 3 1 0 0 = true by decide +kernel) hr rfl
    have hr := rw_bal wk_q82 (show wk_at wk_m82 35 28 0 0 0 0 = true by decide +kernel) c24 (by omega) (sN _ hm8) hr
    rw [h0] at hr
    have hr := iw_ift wk_q82 (show wk_at wk_m82 36 22 1 91 0 0 = true by decide +kernel) (by decide) hr
    have hr := iw_st wk_q82 (show wk_at wk_m82 91 6 2 1 0 0 = true by decide +kernel) hr rfl
    rw [inc2] at hr
    have hr := iw_st wk_q82 (show wk_at wk_m82 94 21 2 0 0 0 = true by decide +kernel) hr rfl
    exact ⟨h, _, _, hR, hr⟩
set_option maxRecDepth 100000 in
theorem r_radv {c : Nat → Nat} {w : Nat → Nat → Nat → Nat} {dn : Nat → Nat} {h : am_H} (hj : rc_j c) (h16 : r_16 w) (h01 : r_01 dn) (hdd : r_dd w dn) (hR : rr_I c w dn h) {n : Nat} (hn : n < 6) {r : am_R} (hr : Rd am_m82 (0, [some (.ref (c 23)), some (.int (Int32.ofNat n)), none, none, none], [], h, 0, 0) r) : ∃ h', r = (.inl none, h', 0, 0) ∧ rr_I c (r_ad w dn n) dn h' := by
  have hr := iw_st wk_q82 (show wk_at wk_m82 0 1 1 1 0 0 = true by decide +kernel) hr rfl
  have hr := iw_st wk_q82 (show wk_at wk_m82 1 4 2 1 0 0 = true by decide +kernel) hr rfl
  unfold r_ad
  by_cases h4 : n < 4
  · have ec : r_ct n = 2 := if_pos h4
    have ek : ∀ k, r_nk n k = 4 + k := fun k => if_pos h4
    rw [if_pos h4]
    obtain ⟨h1, p1, p2, hR, hr⟩ := r_ra1 hj h16 h01 hdd hR hn (by omega) (ek 0) hr
    obtain ⟨h2, p3, p4, hR, hr⟩ := r_ra1 hj (r_as16 h16) h01 (r_asd (Or.inl ⟨h4, Or.inl rfl⟩) hdd) hR hn (by omega) (ek 1) hr
    have hr : Rd am_m82 (2, [some (.ref (c 23)), some (.int (Int32.ofNat n)), some (.int (Int32.ofNat 2)), p3, p4], [], h2, 0, 0) r := hr
    have hr := iw_st wk_q82 (show wk_at wk_m82 2 2 2 1 0 0 = true by decide +kernel) hr rfl
    have hr := iw_st wk_q82 (show wk_at wk_m82 3 1 33 1 0 0 = true by decide +kernel) hr rfl
    have hr := iw_icf wk_q82 (show wk_at wk_m82 4 23 3 97 0 0 = true by decide +kernel) (by rw [r_c3 (by omega) (by omega)]; exact decide_eq_false (by decide)) hr
    have hr := iw_st wk_q82 (show wk_at wk_m82 7 2 1 1 0 0 = true by decide +kernel) hr rfl
    have hr := iw_st wk_q82 (show wk_at wk_m82 8 2 2 1 0 0 = true by decide +kernel) hr rfl
    obtain ⟨x1, hx1, hcx1⟩ := iw_is (as := [.int (Int32.ofNat n), .int (Int32.ofNat 2)]) (r := []) wk_q82 (show wk_at wk_m82 9 40 107 2 0 0 = true by decide +kernel) rfl rfl (Nat.le_of_ble_eq_true rfl) (mj := am_m107) rfl hr
    have hqx1 := r_lo hn (by omega) hx1
    subst hqx1
    obtain ⟨_, _, _, _, ex1, hr⟩ := iv_C_ret rfl hcx1
    cases ex1
    rw [if_neg (by omega)] at hr
    have hr := iw_ift wk_q82 (show wk_at wk_m82 12 22 2 97 0 0 = true by decide +kernel) (by decide) hr
    exact ⟨h2, iw_en wk_q82 (show wk_at wk_m82 97 46 0 0 0 0 = true by decide +kernel) hr rfl, hR⟩
  have h4n := h4
  clear h4
  have ec : r_ct n = 4 := if_neg h4n
  have ek : ∀ k, r_nk n k = k := fun k => if_neg h4n
  rw [if_neg h4n]
  obtain ⟨h1, p0, q0, hR, hr⟩ := r_ra1 hj h16 h01 hdd hR hn (by omega) (ek 0) hr
  obtain ⟨h2, p1, q1, hR, hr⟩ := r_ra1 hj (r_as16 h16) h01 (r_asd (Or.inr ⟨by omega, by decide⟩) hdd) hR hn (by omega) (ek 1) hr
  obtain ⟨h3, p2, q2, hR, hr⟩ := r_ra1 hj (r_as16 (r_as16 h16)) h01 (r_asd (Or.inr ⟨by omega, by decide⟩) (r_asd (Or.inr ⟨by omega, by decide⟩) hdd)) hR hn (by omega) (ek 2) hr
  obtain ⟨h4, p3, q3, hR, hr⟩ := r_ra1 hj (r_as16 (r_as16 (r_as16 h16))) h01 (r_asd (Or.inr ⟨by omega, by decide⟩) (r_asd (Or.inr ⟨by omega, by decide⟩) (r_asd (Or.inr ⟨by omega, by decide⟩) hdd))) hR hn (by omega) (ek 3) hr
  have hr : Rd am_m82 (2, [some (.ref (c 23)), some (.int (Int32.ofNat n)), some (.int (Int32.ofNat 4)), p3, q3], [], h4, 0, 0) r := hr
  have hr := iw_st wk_q82 (show wk_at wk_m82 2 2 2 1 0 0 = true by decide +kernel) hr rfl
  have hr := iw_st wk_q82 (show wk_at wk_m82 3 1 33 1 0 0 = true by decide +kernel) hr rfl
  have hr := iw_ict wk_q82 (show wk_at wk_m82 4 23 3 97 0 0 = true by decide +kernel) (by rw [r_c3 (by omega) (by omega)]; exact decide_eq_true (by decide)) hr
  exact ⟨h4, iw_en wk_q82 (show wk_at wk_m82 97 46 0 0 0 0 = true by decide +kernel) hr rfl, hR⟩
/-- the index of hop zk: d left, from k on, b before -/
def r_ho (B n : Nat) (zk : Int32) : Nat → Nat → Nat → Option Nat
  | 0, _, _ => none
  | d + 1, k, b => if r_hb B (r_nk n k) = true then (if Int32.ofNat b = zk then some k else r_ho B n zk d (k + 1) (b + 1)) else r_ho B n zk d (k + 1) b
set_option maxRecDepth 100000 in
theorem r_hof {c : Nat → Nat} {w : Nat → Nat → Nat → Nat} {dn : Nat → Nat} {h : am_H} (h16 : r_16 w) (h01 : r_01 dn) (hdd : r_dd w dn) (hR : rr_I c w dn h) {n l : Nat} (hn : n < 6) (hl : l < 4) {zk : Int32} (hzk : 2147483648 ≤ ab_b zk) {r : am_R} (hr : Rd am_m100 (0, [some (.ref (c 23)), some (.int (Int32.ofNat n)), some (.int (Int32.ofNat l)), some (.int zk), none, none], [], h, 0, 0) r) : r = (.inl (some (.int (r_on (r_ho (r_h w n l) n zk (r_ct n) 0 0)))), h, 0, 0) := by
  obtain ⟨⟨⟨nf, c23⟩, f5, f6⟩, c24, c25, sN, sT⟩ := id hR
  have hk4 := r_ct4 n
  have loop : ∀ d k b zl, k + d = r_ct n → b ≤ k → ab_b zl + b = ab_b zk → Rd am_m100 (6, [some (.ref (c 23)), some (.int (Int32.ofNat n)), some (.int (Int32.ofNat l)), some (.int zk), some (.int zl), some (.int (Int32.ofNat k))], [], h, 0, 0) r → r = (.inl (some (.int (r_on (r_ho (r_h w n l) n zk d k b)))), h, 0, 0) := by
    intro d
    induction d with
    | zero =>
      intro k b zl hd hb hz hr
      have ek : k = r_ct n := by omega
      subst ek
      have hr := iw_st wk_q100 (show wk_at wk_m100 6 2 5 2 0 0 = true by decide +kernel) hr rfl
      have hr := iw_st wk_q100 (show wk_at wk_m100 8 1 33 1 0 0 = true by decide +kernel) hr rfl
      by_cases e4 : r_ct n = 4
      · have hr := iw_ict wk_q100 (show wk_at wk_m100 9 23 3 49 0 0 = true by decide +kernel) (by rw [r_c3 (by omega) (by omega)]; exact decide_eq_true (by show 33 / 8 ≤ r_ct n; omega)) hr
        have hr := iw_st wk_q100 (show wk_at wk_m100 49 1 34359738361 1 0 0 = true by decide +kernel) hr rfl
        exact iw_en wk_q100 (show wk_at wk_m100 50 44 0 0 0 0 = true by decide +kernel) hr rfl
      · have hr := iw_icf wk_q100 (show wk_at wk_m100 9 23 3 49 0 0 = true by decide +kernel) (by rw [r_c3 (by omega) (by omega)]; exact decide_eq_false (by show ¬ 33 / 8 ≤ r_ct n; omega)) hr
        have hr := iw_st wk_q100 (show wk_at wk_m100 12 2 1 1 0 0 = true by decide +kernel) hr rfl
        have hr := iw_st wk_q100 (show wk_at wk_m100 13 2 5 2 0 0 = true by decide +kernel) hr rfl
        obtain ⟨x1, hx1, hcx1⟩ := iw_is (as := [.int (Int32.ofNat n), .int (Int32.ofNat (r_ct n))]) (r := []) wk_q100 (show wk_at wk_m100 15 40 107 2 0 0 = true by decide +kernel) rfl rfl (Nat.le_of_ble_eq_true rfl) (mj := am_m107) rfl hr
        have hqx1 := r_lo hn (by omega) hx1
        subst hqx1
        obtain ⟨_, _, _, _, ex1, hr⟩ := iv_C_ret rfl hcx1
        cases ex1
        rw [if_neg (Nat.lt_irrefl _)] at hr
        have hr := iw_ift wk_q100 (show wk_at wk_m100 18 22 2 49 0 0 = true by decide +kernel) (by decide) hr
        have hr := iw_st wk_q100 (show wk_at wk_m100 49 1 34359738361 1 0 0 = true by decide +kernel) hr rfl
        exact iw_en wk_q100 (show wk_at wk_m100 50 44 0 0 0 0 = true by decide +kernel) hr rfl
    | succ d ih =>
      intro k b zl hd hb hz hr
      have hk : k < r_ct n := by omega
      obtain ⟨hm1, hm2, hm3, hm8⟩ := r_nb6 (r_nkb hn hk)
      have inc : Int32.ofNat k + Int32.ofNat 1 = Int32.ofNat (k + 1) := r_add (by omega) (by omega)
      have hr := iw_st wk_q100 (show wk_at wk_m100 6 2 5 2 0 0 = true by decide +kernel) hr rfl
      have hr := iw_st wk_q100 (show wk_at wk_m100 8 1 33 1 0 0 = true by decide +kernel) hr rfl
      have hr := iw_icf wk_q100 (show wk_at wk_m100 9 23 3 49 0 0 = true by decide +kernel) (by rw [r_c3 (by omega) (by omega)]; exact decide_eq_false (by show ¬ 33 / 8 ≤ k; omega)) hr
      have hr := iw_st wk_q100 (show wk_at wk_m100 12 2 1 1 0 0 = true by decide +kernel) hr rfl
      have hr := iw_st wk_q100 (show wk_at wk_m100 13 2 5 2 0 0 = true by decide +kernel) hr rfl
      obtain ⟨x1, hx1, hcx1⟩ := iw_is (as := [.int (Int32.ofNat n), .int (Int32.ofNat k)]) (r := []) wk_q100 (show wk_at wk_m100 15 40 107 2 0 0 = true by decide +kernel) rfl rfl (Nat.le_of_ble_eq_true rfl) (mj := am_m107) rfl hr
      have hqx1 := r_lo hn (by omega) hx1
      subst hqx1
      obtain ⟨_, _, _, _, ex1, hr⟩ := iv_C_ret rfl hcx1
      cases ex1
      rw [if_pos hk] at hr
      have hr := iw_iff wk_q100 (show wk_at wk_m100 18 22 2 49 0 0 = true by decide +kernel) (by rw [show (0 : Int32) = Int32.ofNat 0 from rfl, r_c2 (by omega) (by omega)]; exact decide_eq_false (by omega)) hr
      have hr := iw_st wk_q100 (show wk_at wk_m100 21 3 0 1 0 0 = true by decide +kernel) hr rfl
      have hr := iw_st wk_q100 (show wk_at wk_m100 22 2 1 1 0 0 = true by decide +kernel) hr rfl
      have hr := iw_st wk_q100 (show wk_at wk_m100 23 2 5 2 0 0 = true by decide +kernel) hr rfl
      have hr := iw_st wk_q100 (show wk_at wk_m100 25 2 2 1 0 0 = true by decide +kernel) hr rfl
      obtain ⟨x2, hx2, hcx2⟩ := rw_iv (as := [.int (Int32.ofNat n), .int (Int32.ofNat k), .int (Int32.ofNat l)]) (r := []) wk_q100 (show wk_at wk_m100 26 40 102 3 2 9 = true by decide +kernel) c23 rfl rfl (Nat.le_of_ble_eq_true rfl) (mj := am_m102) rfl hr
      have hqx2 := r_ihp h16 h01 hdd hR hn hk hl hx2
      subst hqx2
      obtain ⟨_, _, _, _, ex2, hr⟩ := iv_C_ret rfl hcx2
      cases ex2
      unfold r_ho
      by_cases hh : r_hb (r_h w n l) (r_nk n k) = true
      · rw [if_pos hh] at hr
        rw [if_pos hh]
        have hr := iw_iff wk_q100 (show wk_at wk_m100 29 22 0 43 0 0 = true by decide +kernel) (by decide) hr
        have hr := iw_st wk_q100 (show wk_at wk_m100 32 2 4 2 0 0 = true by decide +kernel) hr rfl
        have eb := r_b (a := b) (by omega)
        by_cases ez : Int32.ofNat b = zk
        · rw [if_pos ez]
          have z0 : zl = 0 := ab_b_inj (by rw [ab_b_0]; rw [ez] at eb; omega)
          have hr := iw_iff wk_q100 (show wk_at wk_m100 34 22 1 40 0 0 = true by decide +kernel) (by rw [z0]; decide) hr
          have hr := iw_st wk_q100 (show wk_at wk_m100 37 2 5 2 0 0 = true by decide +kernel) hr rfl
          exact iw_en wk_q100 (show wk_at wk_m100 39 44 0 0 0 0 = true by decide +kernel) hr rfl
        · rw [if_neg ez]
          have z0 : zl ≠ 0 := fun z => ez (ab_b_inj (by rw [eb]; rw [z, ab_b_0] at hz; omega))
          have hr := iw_ift wk_q100 (show wk_at wk_m100 34 22 1 40 0 0 = true by decide +kernel) (by show (!decide (zl = 0)) = true; rw [decide_eq_false z0]; rfl) hr
          have hr := iw_st wk_q100 (show wk_at wk_m100 40 6 4 4294967295 0 0 = true by decide +kernel) hr rfl
          have hr := iw_st wk_q100 (show wk_at wk_m100 43 6 5 1 0 0 = true by decide +kernel) hr rfl
          rw [inc] at hr
          have hr := iw_st wk_q100 (show wk_at wk_m100 46 21 6 0 0 0 = true by decide +kernel) hr rfl
          have cm : ab_b (Int32.ofNat 4294967295) = 2147483647 := by decide
          have hdec := ab_b_add (x := zl) (y := Int32.ofNat 4294967295) (by omega) (by have := ab_b_lt zl; omega)
          exact ih (k + 1) (b + 1) _ (by omega) (by omega) (by omega) hr
      · rw [if_neg hh] at hr
        rw [if_neg hh]
        have hr := iw_ift wk_q100 (show wk_at wk_m100 29 22 0 43 0 0 = true by decide +kernel) (by decide) hr
        have hr := iw_st wk_q100 (show wk_at wk_m100 43 6 5 1 0 0 = true by decide +kernel) hr rfl
        rw [inc] at hr
        have hr := iw_st wk_q100 (show wk_at wk_m100 46 21 6 0 0 0 = true by decide +kernel) hr rfl
        exact ih (k + 1) b zl (by omega) (by omega) hz hr
  have hr := iw_st wk_q100 (show wk_at wk_m100 0 2 3 1 0 0 = true by decide +kernel) hr rfl
  have hr := iw_st wk_q100 (show wk_at wk_m100 1 4 4 2 0 0 = true by decide +kernel) hr rfl
  have hr := iw_st wk_q100 (show wk_at wk_m100 3 1 1 1 0 0 = true by decide +kernel) hr rfl
  have hr := iw_st wk_q100 (show wk_at wk_m100 4 4 5 2 0 0 = true by decide +kernel) hr rfl
  exact loop (r_ct n) 0 0 zk (by omega) (by omega) (by omega) hr
theorem r_haf {B : Nat} {zk : Int32} {d j b : Nat} (h : ¬ r_hb B j = true) : r_ha B zk (d + 1) j b = r_ha B zk d (j + 1) b := if_neg h
theorem r_han {B : Nat} {zk : Int32} : ∀ d j b, (∀ i, j ≤ i → i < j + d → ¬ r_hb B i = true) → r_ha B zk d j b = none
  | 0, _, _, _ => rfl
  | d + 1, j, b, h => by
    rw [r_haf (h j (Nat.le_refl _) (by omega))]
    exact r_han d (j + 1) b (fun i h1 h2 => h i (by omega) (by omega))
/-- class and reference find the same neighbour -/
theorem r_hah (w : Nat → Nat → Nat → Nat) {n l : Nat} (hn : n < 6) {zk : Int32} : r_ha (r_h w n l) zk 6 0 0 = (r_ho (r_h w n l) n zk (r_ct n) 0 0).map (r_nk n) := by
  have nb : ∀ i, i < 6 → ¬ r_nb n i → ¬ r_hb (r_h w n l) i = true := fun i hi h z => h ((r_hop w hn hi).mp z).1
  have gen : ∀ d k b e, (∀ i, r_nk n k + d ≤ i → i < r_nk n k + d + e → ¬ r_hb (r_h w n l) i = true) → r_ha (r_h w n l) zk (d + e) (r_nk n k) b = (r_ho (r_h w n l) n zk d k b).map (r_nk n) := by
    intro d
    induction d with
    | zero =>
      intro k b e he
      rw [Nat.zero_add, r_han e _ b (fun i h1 h2 => he i (by omega) (by omega))]
      rfl
    | succ d ih =>
      intro k b e he
      have ek : r_nk n k + 1 = r_nk n (k + 1) := by unfold r_nk; split <;> omega
      have es : d + 1 + e = (d + e) + 1 := by omega
      rw [es]
      unfold r_ha r_ho
      rw [ek]
      have i1 := ih (k + 1) (b + 1) e (fun i h1 h2 => he i (by omega) (by omega))
      have i2 := ih (k + 1) b e (fun i h1 h2 => he i (by omega) (by omega))
      by_cases hh : r_hb (r_h w n l) (r_nk n k) = true
      · rw [if_pos hh, if_pos hh]
        by_cases ez : Int32.ofNat b = zk
        · rw [if_pos ez, if_pos ez]
          rfl
        · rw [if_neg ez, if_neg ez]
          exact i1
      · rw [if_neg hh, if_neg hh]
        exact i2
  by_cases h4 : n < 4
  · have ec : r_ct n = 2 := if_pos h4
    have e0 : r_nk n 0 = 4 := if_pos h4
    have no : ∀ i, i < 4 → ¬ r_hb (r_h w n l) i = true := fun i hi => nb i (by omega) (fun z => by rcases z with z | z <;> omega)
    have q := gen 2 0 0 0 (fun i h1 h2 => absurd h2 (by omega))
    rw [e0] at q
    rw [r_haf (no 0 (by decide)), r_haf (no 1 (by decide)), r_haf (no 2 (by decide)), r_haf (no 3 (by decide)), ec]
    exact q
  · have ec : r_ct n = 4 := if_neg h4
    have e0 : r_nk n 0 = 0 := if_neg h4
    have q := gen 4 0 0 2 (fun i h1 h2 => nb i (by omega) (fun z => by rcases z with z | z <;> omega))
    rw [e0] at q
    rw [ec]
    exact q
set_option maxRecDepth 100000 in
theorem r_nei {h : am_H} {n k : Nat} (hn : n < 6) (hk : k < 6) {r : am_R} (hr : Rd am_m111 (0, [some (.int (Int32.ofNat n)), some (.int (Int32.ofNat k))], [], h, 0, 0) r) : r = (.inl (some (.int (Int32.ofNat (r_nk n k)))), h, 0, 0) := by
  have hr := iw_st wk_q111 (show wk_at wk_m111 0 2 0 1 0 0 = true by decide +kernel) hr rfl
  have hr := iw_st wk_q111 (show wk_at wk_m111 1 1 33 1 0 0 = true by decide +kernel) hr rfl
  by_cases h4 : n < 4
  · have en : r_nk n k = 4 + k := if_pos h4
    rw [en]
    have hr := iw_icf wk_q111 (show wk_at wk_m111 2 23 3 11 0 0 = true by decide +kernel) (by rw [r_c3 (by omega) (by omega)]; exact decide_eq_false (by show ¬ 33 / 8 ≤ n; omega)) hr
    have hr := iw_st wk_q111 (show wk_at wk_m111 5 1 33 1 0 0 = true by decide +kernel) hr rfl
    have hr := iw_st wk_q111 (show wk_at wk_m111 6 2 1 1 0 0 = true by decide +kernel) hr rfl
    have hr := iw_st wk_q111 (show wk_at wk_m111 7 7 0 0 0 0 = true by decide +kernel) hr rfl
    rw [show Int32.ofNat (33 / 8) + Int32.ofNat k = Int32.ofNat (4 + k) from r_add (by omega) (by omega)] at hr
    have hr := iw_st wk_q111 (show wk_at wk_m111 8 21 12 0 0 0 = true by decide +kernel) hr rfl
    exact iw_en wk_q111 (show wk_at wk_m111 12 44 0 0 0 0 = true by decide +kernel) hr rfl
  · have en : r_nk n k = k := if_neg h4
    rw [en]
    have hr := iw_ict wk_q111 (show wk_at wk_m111 2 23 3 11 0 0 = true by decide +kernel) (by rw [r_c3 (by omega) (by omega)]; exact decide_eq_true (by show 33 / 8 ≤ n; omega)) hr
    have hr := iw_st wk_q111 (show wk_at wk_m111 11 2 1 1 0 0 = true by decide +kernel) hr rfl
    exact iw_en wk_q111 (show wk_at wk_m111 12 44 0 0 0 0 = true by decide +kernel) hr rfl
