/-! ===== the reference: what waits moves up ===== -/
theorem km_sum_shift (f : Nat → Nat) : ∀ n, km_sum f (n + 1) = f 0 + km_sum (fun j => f (j + 1)) n
  | 0 => by rw [km_sum_succ]; show 0 + f 0 = f 0 + 0; omega
  | n + 1 => by
    rw [km_sum_succ, km_sum_shift f n, km_sum_succ]
    omega
/-- rows of what waits, moved up as far as i -/
def md_sh (u : Nat → Nat) (h1 hi : am_H) (i : Nat) : Prop := (∀ k, k ∈ [54, 55, 56, 57, 58] → ∀ j, ab_sl hi (u k) j = if j < i then ab_sl h1 (u k) (j + 1) else ab_sl h1 (u k) j) ∧ ∀ k j, w_uq k = true → k ∉ [54, 55, 56, 57, 58] → ab_sl hi (u k) j = ab_sl h1 (u k) j
set_option maxRecDepth 100000 in
theorem md_shift {mc : Nat} {τ u : Nat → Nat} {tv wr : Nat} (hU : ab_U w_uq τ u) (hut : ∀ k, w_uq k = true → τ (u k) = k) (hwr : ∀ k, k ∈ [54, 55, 56, 57, 58] → ab_tb wr (ab_bt w_kd k 0) = true) {h0 h1 : am_H} {x1 x2 x3 x4 x5 zn : Int32} {n : Nat} (hzn : ab_sl h1 (u 40) 19 = some (.int zn)) (hn : ab_b zn = 2147483648 + n) (n63 : n < 63) {Q : am_R → Prop} (hQ : ∀ (zi : Int32) hi, cl_H mc τ tv wr h0 hi 0 → md_sh u h1 hi n → cl_Rn am_m122 (152, [some (.ref (u 40)), some (.int x1), some (.int x2), some (.int x3), some (.int x4), some (.int x5), some (.int zi)], [], hi, 0, 0) Q) : ∀ (d i : Nat) (zi : Int32) (hi : am_H), d + i = n → ab_b zi = 2147483648 + i → cl_H mc τ tv wr h0 hi 0 → md_sh u h1 hi i → cl_Rn am_m122 (57, [some (.ref (u 40)), some (.int x1), some (.int x2), some (.int x3), some (.int x4), some (.int x5), some (.int zi)], [], hi, 0, 0) Q := by
  have hud := md_ud hut
  have c1 : ab_b (Int32.ofNat (9 / 8)) = 2147483649 := by decide
  have c1' : ab_b (Int32.ofNat 1) = 2147483649 := by decide
  intro d
  induction d with
  | zero =>
    intro i zi hi hd hzi hP hs
    refine rs_st (cmp := am_cmp) wk_q122 (show wk_at wk_m122 57 2 6 2 0 0 = true by decide +kernel) rfl ?_
    refine rs_st (cmp := am_cmp) wk_q122 (show wk_at wk_m122 59 3 0 1 0 0 = true by decide +kernel) rfl ?_
    refine md_get hut wk_q122 (show wk_at wk_m122 60 25 9 19 0 0 = true by decide +kernel) hP.1 (v := .int zn) (by rw [hs.2 40 19 (by decide +kernel) (by decide)]; exact hzn) ?_
    refine rs_ict wk_q122 (show wk_at wk_m122 63 23 3 152 0 0 = true by decide +kernel) (by show decide (zn ≤ zi) = true; exact decide_eq_true (ab_b_lei.mpr (by omega))) ?_
    have : i = n := by omega
    subst this
    exact hQ zi hi hP hs
  | succ d ih =>
    intro i zi hi hd hzi hP hs
    have hinc := ab_b_add (x := zi) (y := Int32.ofNat 1) (by omega) (by omega)
    have hinc' := ab_b_add (x := zi) (y := Int32.ofNat (9 / 8)) (by omega) (by omega)
    have b0 : 2147483648 ≤ ab_b zi := by omega
    have b1 : 2147483648 ≤ ab_b (zi + Int32.ofNat (9 / 8)) := by omega
    have q0 : ab_b zi - 2147483648 = i := by rw [hzi]; exact Nat.add_sub_cancel_left ..
    have q1 : ab_b (zi + Int32.ofNat (9 / 8)) - 2147483648 = i + 1 := by
      have : ab_b (zi + Int32.ofNat (9 / 8)) = 2147483648 + (i + 1) := by omega
      rw [this]
      exact Nat.add_sub_cancel_left ..
    have l0 : i < 64 := by omega
    have l1 : i + 1 < 64 := by omega
    refine rs_st (cmp := am_cmp) wk_q122 (show wk_at wk_m122 57 2 6 2 0 0 = true by decide +kernel) rfl ?_
    refine rs_st (cmp := am_cmp) wk_q122 (show wk_at wk_m122 59 3 0 1 0 0 = true by decide +kernel) rfl ?_
    refine md_get hut wk_q122 (show wk_at wk_m122 60 25 9 19 0 0 = true by decide +kernel) hP.1 (v := .int zn) (by rw [hs.2 40 19 (by decide +kernel) (by decide)]; exact hzn) ?_
    refine rs_icf wk_q122 (show wk_at wk_m122 63 23 3 152 0 0 = true by decide +kernel) (by show decide (zn ≤ zi) = false; exact decide_eq_false (fun hle => by have := ab_b_lei.mp hle; omega)) ?_
    obtain ⟨y54, hy54, gy54⟩ := md_int hut hP.1 (k := 54) (i := i + 1) (by decide +kernel) (by decide) (by decide +kernel) (by exact l1) rfl
    obtain ⟨y55, hy55, gy55⟩ := md_int hut hP.1 (k := 55) (i := i + 1) (by decide +kernel) (by decide) (by decide +kernel) (by exact l1) rfl
    obtain ⟨y56, hy56, gy56⟩ := md_int hut hP.1 (k := 56) (i := i + 1) (by decide +kernel) (by decide) (by decide +kernel) (by exact l1) rfl
    obtain ⟨y57, hy57, gy57⟩ := md_int hut hP.1 (k := 57) (i := i + 1) (by decide +kernel) (by decide) (by decide +kernel) (by exact l1) rfl
    obtain ⟨y58, hy58, gy58⟩ := md_int hut hP.1 (k := 58) (i := i + 1) (by decide +kernel) (by decide) (by decide +kernel) (by exact l1) rfl
    refine rs_st (cmp := am_cmp) wk_q122 (show wk_at wk_m122 66 3 0 1 0 0 = true by decide +kernel) rfl ?_
    refine md_get hut wk_q122 (show wk_at wk_m122 67 25 9 20 0 0 = true by decide +kernel) hP.1 (v := .ref (u 54)) (md_row hU hut hP.1 (i := 20) (k := 54) (by decide) rfl (by decide +kernel)) ?_
    refine rs_st (cmp := am_cmp) wk_q122 (show wk_at wk_m122 70 2 6 2 0 0 = true by decide +kernel) rfl ?_
    refine rs_st (cmp := am_cmp) wk_q122 (show wk_at wk_m122 72 3 0 1 0 0 = true by decide +kernel) rfl ?_
    refine md_get hut wk_q122 (show wk_at wk_m122 73 25 9 20 0 0 = true by decide +kernel) hP.1 (v := .ref (u 54)) (md_row hU hut hP.1 (i := 20) (k := 54) (by decide) rfl (by decide +kernel)) ?_
    refine rs_st (cmp := am_cmp) wk_q122 (show wk_at wk_m122 76 2 6 2 0 0 = true by decide +kernel) rfl ?_
    refine rs_st (cmp := am_cmp) wk_q122 (show wk_at wk_m122 78 1 9 1 0 0 = true by decide +kernel) rfl ?_
    refine rs_st (cmp := am_cmp) wk_q122 (show wk_at wk_m122 79 7 0 0 0 0 = true by decide +kernel) rfl ?_
    refine md_ial hut wk_q122 (show wk_at wk_m122 80 27 0 0 0 0 = true by decide +kernel) hP.1 (k := 54) (by decide +kernel) (by decide) rfl b1 q1 (v := y54) hy54 ?_
    refine md_ias hut wk_q122 (show wk_at wk_m122 81 31 0 0 0 0 = true by decide +kernel) hP (k := 54) (by decide +kernel) (by decide) (by decide +kernel) rfl b0 q0 (by exact l0) (hwr 54 (by decide)) (gy54) (fun h1 hP1 e1 => ?_)
    refine rs_st (cmp := am_cmp) wk_q122 (show wk_at wk_m122 82 3 0 1 0 0 = true by decide +kernel) rfl ?_
    refine md_get hut wk_q122 (show wk_at wk_m122 83 25 9 21 0 0 = true by decide +kernel) hP1.1 (v := .ref (u 55)) (md_row hU hut hP1.1 (i := 21) (k := 55) (by decide) rfl (by decide +kernel)) ?_
    refine rs_st (cmp := am_cmp) wk_q122 (show wk_at wk_m122 86 2 6 2 0 0 = true by decide +kernel) rfl ?_
    refine rs_st (cmp := am_cmp) wk_q122 (show wk_at wk_m122 88 3 0 1 0 0 = true by decide +kernel) rfl ?_
    refine md_get hut wk_q122 (show wk_at wk_m122 89 25 9 21 0 0 = true by decide +kernel) hP1.1 (v := .ref (u 55)) (md_row hU hut hP1.1 (i := 21) (k := 55) (by decide) rfl (by decide +kernel)) ?_
    refine rs_st (cmp := am_cmp) wk_q122 (show wk_at wk_m122 92 2 6 2 0 0 = true by decide +kernel) rfl ?_
    refine rs_st (cmp := am_cmp) wk_q122 (show wk_at wk_m122 94 1 9 1 0 0 = true by decide +kernel) rfl ?_
    refine rs_st (cmp := am_cmp) wk_q122 (show wk_at wk_m122 95 7 0 0 0 0 = true by decide +kernel) rfl ?_
    refine md_ial hut wk_q122 (show wk_at wk_m122 96 27 0 0 0 0 = true by decide +kernel) hP1.1 (k := 55) (by decide +kernel) (by decide) rfl b1 q1 (v := y55) (by rw [e1, if_neg (fun z => hud 55 54 (by decide +kernel) (by decide +kernel) (by decide) z.1)]; exact hy55) ?_
    refine md_ias hut wk_q122 (show wk_at wk_m122 97 31 0 0 0 0 = true by decide +kernel) hP1 (k := 55) (by decide +kernel) (by decide) (by decide +kernel) rfl b0 q0 (by exact l0) (hwr 55 (by decide)) (gy55) (fun h2 hP2 e2 => ?_)
    refine rs_st (cmp := am_cmp) wk_q122 (show wk_at wk_m122 98 3 0 1 0 0 = true by decide +kernel) rfl ?_
    refine md_get hut wk_q122 (show wk_at wk_m122 99 25 9 22 0 0 = true by decide +kernel) hP2.1 (v := .ref (u 56)) (md_row hU hut hP2.1 (i := 22) (k := 56) (by decide) rfl (by decide +kernel)) ?_
    refine rs_st (cmp := am_cmp) wk_q122 (show wk_at wk_m122 102 2 6 2 0 0 = true by decide +kernel) rfl ?_
    refine rs_st (cmp := am_cmp) wk_q122 (show wk_at wk_m122 104 3 0 1 0 0 = true by decide +kernel) rfl ?_
    refine md_get hut wk_q122 (show wk_at wk_m122 105 25 9 22 0 0 = true by decide +kernel) hP2.1 (v := .ref (u 56)) (md_row hU hut hP2.1 (i := 22) (k := 56) (by decide) rfl (by decide +kernel)) ?_
    refine rs_st (cmp := am_cmp) wk_q122 (show wk_at wk_m122 108 2 6 2 0 0 = true by decide +kernel) rfl ?_
    refine rs_st (cmp := am_cmp) wk_q122 (show wk_at wk_m122 110 1 9 1 0 0 = true by decide +kernel) rfl ?_
    refine rs_st (cmp := am_cmp) wk_q122 (show wk_at wk_m122 111 7 0 0 0 0 = true by decide +kernel) rfl ?_
    refine md_ial hut wk_q122 (show wk_at wk_m122 112 27 0 0 0 0 = true by decide +kernel) hP2.1 (k := 56) (by decide +kernel) (by decide) rfl b1 q1 (v := y56) (by rw [e2, if_neg (fun z => hud 56 55 (by decide +kernel) (by decide +kernel) (by decide) z.1), e1, if_neg (fun z => hud 56 54 (by decide +kernel) (by decide +kernel) (by decide) z.1)]; exact hy56) ?_
    refine md_ias hut wk_q122 (show wk_at wk_m122 113 31 0 0 0 0 = true by decide +kernel) hP2 (k := 56) (by decide +kernel) (by decide) (by decide +kernel) rfl b0 q0 (by exact l0) (hwr 56 (by decide)) (gy56) (fun h3 hP3 e3 => ?_)
    refine rs_st (cmp := am_cmp) wk_q122 (show wk_at wk_m122 114 3 0 1 0 0 = true by decide +kernel) rfl ?_
    refine md_get hut wk_q122 (show wk_at wk_m122 115 25 9 23 0 0 = true by decide +kernel) hP3.1 (v := .ref (u 57)) (md_row hU hut hP3.1 (i := 23) (k := 57) (by decide) rfl (by decide +kernel)) ?_
    refine rs_st (cmp := am_cmp) wk_q122 (show wk_at wk_m122 118 2 6 2 0 0 = true by decide +kernel) rfl ?_
    refine rs_st (cmp := am_cmp) wk_q122 (show wk_at wk_m122 120 3 0 1 0 0 = true by decide +kernel) rfl ?_
    refine md_get hut wk_q122 (show wk_at wk_m122 121 25 9 23 0 0 = true by decide +kernel) hP3.1 (v := .ref (u 57)) (md_row hU hut hP3.1 (i := 23) (k := 57) (by decide) rfl (by decide +kernel)) ?_
    refine rs_st (cmp := am_cmp) wk_q122 (show wk_at wk_m122 124 2 6 2 0 0 = true by decide +kernel) rfl ?_
    refine rs_st (cmp := am_cmp) wk_q122 (show wk_at wk_m122 126 1 9 1 0 0 = true by decide +kernel) rfl ?_
    refine rs_st (cmp := am_cmp) wk_q122 (show wk_at wk_m122 127 7 0 0 0 0 = true by decide +kernel) rfl ?_
    refine md_ial hut wk_q122 (show wk_at wk_m122 128 27 0 0 0 0 = true by decide +kernel) hP3.1 (k := 57) (by decide +kernel) (by decide) rfl b1 q1 (v := y57) (by rw [e3, if_neg (fun z => hud 57 56 (by decide +kernel) (by decide +kernel) (by decide) z.1), e2, if_neg (fun z => hud 57 55 (by decide +kernel) (by decide +kernel) (by decide) z.1), e1, if_neg (fun z => hud 57 54 (by decide +kernel) (by decide +kernel) (by decide) z.1)]; exact hy57) ?_
    refine md_ias hut wk_q122 (show wk_at wk_m122 129 31 0 0 0 0 = true by decide +kernel) hP3 (k := 57) (by decide +kernel) (by decide) (by decide +kernel) rfl b0 q0 (by exact l0) (hwr 57 (by decide)) (gy57) (fun h4 hP4 e4 => ?_)
    refine rs_st (cmp := am_cmp) wk_q122 (show wk_at wk_m122 130 3 0 1 0 0 = true by decide +kernel) rfl ?_
    refine md_get hut wk_q122 (show wk_at wk_m122 131 25 9 24 0 0 = true by decide +kernel) hP4.1 (v := .ref (u 58)) (md_row hU hut hP4.1 (i := 24) (k := 58) (by decide) rfl (by decide +kernel)) ?_
    refine rs_st (cmp := am_cmp) wk_q122 (show wk_at wk_m122 134 2 6 2 0 0 = true by decide +kernel) rfl ?_
    refine rs_st (cmp := am_cmp) wk_q122 (show wk_at wk_m122 136 3 0 1 0 0 = true by decide +kernel) rfl ?_
    refine md_get hut wk_q122 (show wk_at wk_m122 137 25 9 24 0 0 = true by decide +kernel) hP4.1 (v := .ref (u 58)) (md_row hU hut hP4.1 (i := 24) (k := 58) (by decide) rfl (by decide +kernel)) ?_
    refine rs_st (cmp := am_cmp) wk_q122 (show wk_at wk_m122 140 2 6 2 0 0 = true by decide +kernel) rfl ?_
    refine rs_st (cmp := am_cmp) wk_q122 (show wk_at wk_m122 142 1 9 1 0 0 = true by decide +kernel) rfl ?_
    refine rs_st (cmp := am_cmp) wk_q122 (show wk_at wk_m122 143 7 0 0 0 0 = true by decide +kernel) rfl ?_
    refine md_ial hut wk_q122 (show wk_at wk_m122 144 27 0 0 0 0 = true by decide +kernel) hP4.1 (k := 58) (by decide +kernel) (by decide) rfl b1 q1 (v := y58) (by rw [e4, if_neg (fun z => hud 58 57 (by decide +kernel) (by decide +kernel) (by decide) z.1), e3, if_neg (fun z => hud 58 56 (by decide +kernel) (by decide +kernel) (by decide) z.1), e2, if_neg (fun z => hud 58 55 (by decide +kernel) (by decide +kernel) (by decide) z.1), e1, if_neg (fun z => hud 58 54 (by decide +kernel) (by decide +kernel) (by decide) z.1)]; exact hy58) ?_
    refine md_ias hut wk_q122 (show wk_at wk_m122 145 31 0 0 0 0 = true by decide +kernel) hP4 (k := 58) (by decide +kernel) (by decide) (by decide +kernel) rfl b0 q0 (by exact l0) (hwr 58 (by decide)) (gy58) (fun h5 hP5 e5 => ?_)
    refine rs_st (cmp := am_cmp) wk_q122 (show wk_at wk_m122 146 6 6 1 0 0 = true by decide +kernel) rfl ?_
    refine rs_st (cmp := am_cmp) wk_q122 (show wk_at wk_m122 149 21 57 0 0 0 = true by decide +kernel) rfl ?_
    refine ih (i + 1) (zi + Int32.ofNat 1) h5 (by omega) (by omega) hP5 ⟨fun k hk j => ?_, fun k j hk hn => ?_⟩
    · have hold := hs.1 k hk
      simp only [List.mem_cons, List.not_mem_nil, or_false] at hk
      rcases hk with rfl | rfl | rfl | rfl | rfl
      · rw [e5, if_neg (fun z => hud 54 58 (by decide +kernel) (by decide +kernel) (by decide) z.1), e4, if_neg (fun z => hud 54 57 (by decide +kernel) (by decide +kernel) (by decide) z.1), e3, if_neg (fun z => hud 54 56 (by decide +kernel) (by decide +kernel) (by decide) z.1), e2, if_neg (fun z => hud 54 55 (by decide +kernel) (by decide +kernel) (by decide) z.1), e1]
        by_cases e : j = i
        · subst e
          rw [if_pos ⟨rfl, rfl⟩, if_pos (by omega), ← hy54, hold, if_neg (by omega)]
        · rw [if_neg (fun z => e z.2), hold]
          by_cases e2 : j < i
          · rw [if_pos e2, if_pos (by omega)]
          · rw [if_neg e2, if_neg (by omega)]
      · rw [e5, if_neg (fun z => hud 55 58 (by decide +kernel) (by decide +kernel) (by decide) z.1), e4, if_neg (fun z => hud 55 57 (by decide +kernel) (by decide +kernel) (by decide) z.1), e3, if_neg (fun z => hud 55 56 (by decide +kernel) (by decide +kernel) (by decide) z.1), e2]
        by_cases e : j = i
        · subst e
          rw [if_pos ⟨rfl, rfl⟩, if_pos (by omega), ← hy55, hold, if_neg (by omega)]
        · rw [if_neg (fun z => e z.2), e1, if_neg (fun z => hud 55 54 (by decide +kernel) (by decide +kernel) (by decide) z.1), hold]
          by_cases e2 : j < i
          · rw [if_pos e2, if_pos (by omega)]
          · rw [if_neg e2, if_neg (by omega)]
      · rw [e5, if_neg (fun z => hud 56 58 (by decide +kernel) (by decide +kernel) (by decide) z.1), e4, if_neg (fun z => hud 56 57 (by decide +kernel) (by decide +kernel) (by decide) z.1), e3]
        by_cases e : j = i
        · subst e
          rw [if_pos ⟨rfl, rfl⟩, if_pos (by omega), ← hy56, hold, if_neg (by omega)]
        · rw [if_neg (fun z => e z.2), e2, if_neg (fun z => hud 56 55 (by decide +kernel) (by decide +kernel) (by decide) z.1), e1, if_neg (fun z => hud 56 54 (by decide +kernel) (by decide +kernel) (by decide) z.1), hold]
          by_cases e2 : j < i
          · rw [if_pos e2, if_pos (by omega)]
          · rw [if_neg e2, if_neg (by omega)]
      · rw [e5, if_neg (fun z => hud 57 58 (by decide +kernel) (by decide +kernel) (by decide) z.1), e4]
        by_cases e : j = i
        · subst e
          rw [if_pos ⟨rfl, rfl⟩, if_pos (by omega), ← hy57, hold, if_neg (by omega)]
        · rw [if_neg (fun z => e z.2), e3, if_neg (fun z => hud 57 56 (by decide +kernel) (by decide +kernel) (by decide) z.1), e2, if_neg (fun z => hud 57 55 (by decide +kernel) (by decide +kernel) (by decide) z.1), e1, if_neg (fun z => hud 57 54 (by decide +kernel) (by decide +kernel) (by decide) z.1), hold]
          by_cases e2 : j < i
          · rw [if_pos e2, if_pos (by omega)]
          · rw [if_neg e2, if_neg (by omega)]
      · rw [e5]
        by_cases e : j = i
        · subst e
          rw [if_pos ⟨rfl, rfl⟩, if_pos (by omega), ← hy58, hold, if_neg (by omega)]
        · rw [if_neg (fun z => e z.2), e4, if_neg (fun z => hud 58 57 (by decide +kernel) (by decide +kernel) (by decide) z.1), e3, if_neg (fun z => hud 58 56 (by decide +kernel) (by decide +kernel) (by decide) z.1), e2, if_neg (fun z => hud 58 55 (by decide +kernel) (by decide +kernel) (by decide) z.1), e1, if_neg (fun z => hud 58 54 (by decide +kernel) (by decide +kernel) (by decide) z.1), hold]
          by_cases e2 : j < i
          · rw [if_pos e2, if_pos (by omega)]
          · rw [if_neg e2, if_neg (by omega)]
    · have hn5 : ∀ q, q ∈ [54, 55, 56, 57, 58] → u k ≠ u q := fun q hq => hud k q hk (by simp only [List.mem_cons, List.not_mem_nil, or_false] at hq; rcases hq with rfl | rfl | rfl | rfl | rfl <;> decide +kernel) (fun z => hn (by rw [z]; exact hq))
      rw [e5, if_neg (fun z => hn5 58 (by decide) z.1), e4, if_neg (fun z => hn5 57 (by decide) z.1), e3, if_neg (fun z => hn5 56 (by decide) z.1), e2, if_neg (fun z => hn5 55 (by decide) z.1), e1, if_neg (fun z => hn5 54 (by decide) z.1)]
      exact hs.2 k j hk hn
/-- a frame is handled: by its kind, and to whom it goes -/
def md_hnd (mc g : Nat) (k r a b : ab_V) (w : ab_V) (wr : Nat) : ab_C := ([(1, 640, 0), k, w_mm mc, r, a, b], [(640, 19, w)], [(0, (3, 0, 0), [(640, 19, w_r 0 8)])], wr, (1000 + g, 1000, 0, 0))
def md_sett (wr : Nat) : ab_C := ([(1, 640, 0)], [(640, 19, w_r 0 8)], [(0, (3, 0, 0), [(640, 19, w_e 0)])], wr, w_g0)
