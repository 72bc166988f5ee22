/-! ===== move: class and reference side by side ===== -/
theorem q_c5 {τ u : Nat → Nat} {mc Tc Tm : Nat} {h : am_H} (hJ : j_J τ u mc Tc Tm h) {y : Nat} (hy : τ y = 32) : ∃ va, h[y]? = some (5, va) := by
  obtain ⟨vs, e1, -, -⟩ := hJ.1 y (by rw [hy]; decide)
  rw [hy] at e1
  exact ⟨vs, e1⟩
theorem ii_mv {τ u : Nat → Nat} {mc Tc Tm : Nat} {h h1 h2 : am_H} (hut : ∀ k, w_uq k = true → τ (u k) = k) (hJ : j_J τ u mc Tc Tm h) (hJ1 : j_J τ u mc Tc Tm h1) {zc zm zl w : Int32} (hc5 : ab_b zc = 2147483648 + mc) (hq : (∀ i, ab_sl h1 (u 6) i = ab_sl h (u 6) i) ∧ ∀ i, ab_sl h1 (u 61) i = ab_sl h (u 61) i) (hcl : (¬ (j_in zm zc ∧ j_in zl 4) ∧ w = 1 ∧ ∀ a va, h[a]? = some (5, va) → ab_sl h1 a 3 = ab_sl h a 3) ∨ (j_in zm zc ∧ j_in zl 4 ∧ ∃ (y : Nat) (d : Int32), ab_sl h (u 6) (ab_b zm - 2147483648) = some (.ref y) ∧ ab_sl h y 3 = some (.int d) ∧ ((d = zl ∧ w = 2 ∧ ∀ a va, h[a]? = some (5, va) → ab_sl h1 a 3 = ab_sl h a 3) ∨ (d ≠ zl ∧ w = 0 ∧ ∀ a va, h[a]? = some (5, va) → ab_sl h1 a 3 = if a = y then some (.int zl) else ab_sl h a 3)))) (hm : jm_mvq τ u mc zm zl h1 h2) (hi : ii_I u h) : ab_sl h2 (u 40) 0 = some (.int w) ∧ ii_I u h2 := by
  obtain ⟨zc', hc', hm⟩ := hm
  obtain rfl : zc' = zc := ab_b_inj (by rw [hc', hc5])
  have same : (∀ a va, h[a]? = some (5, va) → ab_sl h1 a 3 = ab_sl h a 3) → ii_I u h1 := fun hs i y h6 => by
    rw [hq.1] at h6
    obtain ⟨z, z1, z2⟩ := hi i y h6
    obtain ⟨va, ea⟩ := q_c5 hJ (q_32 hut hJ.1 h6).1
    exact ⟨z, by rw [hs y va ea]; exact z1, by rw [hq.2]; exact z2⟩
  rcases hcl with ⟨n, rfl, hs⟩ | ⟨i1, i2, y, d, hy, hd, hcl⟩
  · rcases hm with ⟨-, ht, hp⟩ | ⟨j1, j2, -⟩
    · exact ⟨ht, ii_k hut hJ1 hp (same hs)⟩
    · exact absurd ⟨j1, j2⟩ n
  · rcases hm with ⟨n, -⟩ | ⟨-, -, zo, ho, hm⟩
    · exact absurd ⟨i1, i2⟩ n
    obtain ⟨z, z1, z2⟩ := hi _ y hy
    rw [hd] at z1
    cases z1
    rw [hq.2, z2] at ho
    cases ho
    rcases hcl with ⟨e, rfl, hs⟩ | ⟨e, rfl, hs⟩
    · rcases hm with ⟨-, ht, hp⟩ | ⟨ne, -⟩
      · exact ⟨ht, ii_k hut hJ1 hp (same hs)⟩
      · exact absurd e ne
    · rcases hm with ⟨ee, -⟩ | ⟨-, ht, hv⟩
      · exact absurd ee e
      refine ⟨ht, fun i y' h6 => ?_⟩
      rw [hv.1] at h6
      have hy1 := (q_32 hut hJ1.1 h6).1
      rw [hq.1] at h6
      obtain ⟨va, ea⟩ := q_c5 hJ (q_32 hut hJ.1 h6).1
      by_cases ei : i = ab_b zm - 2147483648
      · rw [ei, hy] at h6
        cases h6
        exact ⟨zl, by rw [hv.2.1 y hy1, hs y va ea, if_pos rfl], by rw [hv.2.2, if_pos ei]⟩
      · have ny : y' ≠ y := fun e => ei (q_inj hut hJ (by rw [← e]; exact h6) hy)
        obtain ⟨z', w1, w2⟩ := hi i y' h6
        exact ⟨z', by rw [hv.2.1 y' hy1, hs y' va ea, if_neg ny]; exact w1, by rw [hv.2.2, if_neg ei, hq.2]; exact w2⟩
/-- at the start there is no machine -/
theorem ii_s : ii_I s_u s_h := fun i y h6 => absurd (q_32 s_ut s_J.1 h6).2 (Nat.not_lt_zero _)
