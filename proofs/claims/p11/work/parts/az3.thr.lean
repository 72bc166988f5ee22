/-! ===== thrown; longs that the law reads ===== -/
theorem th_run {τ u : Nat → Nat} {mc Tc Tm : Nat} {h : am_H} (hut : ∀ k, w_uq k = true → τ (u k) = k) (hJ : j_J τ u mc Tc Tm h) {z : Int32} (hz : ab_sl h (u 40) 0 = some (.int z)) : cl_Rn am_m146 (0, [some (.ref (u 40))], [], h, 0, 0) (fun r => r = (.inl (some (.int z)), h, 0, 0)) := by
  have e := hut 40 (by decide +kernel)
  obtain ⟨vs, e40, -, -⟩ := hJ.1 (u 40) (by rw [e]; decide)
  rw [e] at e40
  have e40 : h[u 40]? = some (9, vs) := e40
  rw [ab_sl_at e40] at hz
  refine rs_raw (S' := (1, [some (.ref (u 40))], [.ref (u 40)], h, 0, 0)) rfl ?_
  refine rs_raw (S' := (4, [some (.ref (u 40))], [.int z], h, 0, 0)) ?_ ?_
  · show am_getf (0, 9, 0, 0) 1 [some (.ref (u 40))] [.ref (u 40)] h 0 0 = _
    unfold am_getf
    rw [if_pos (by decide)]
    dsimp only
    rw [ab_arr e40]
    dsimp only
    rw [hz]
    rfl
  · exact ⟨1, (.inl (some (.int z)), h, 0, 0), ab_rune rfl, rfl⟩
