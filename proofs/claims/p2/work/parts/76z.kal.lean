/-! ===== what frames hold together, by their kinds ===== -/
theorem kc_al01 (mc : Nat) : ∀ zk zf zg : Int32, (w_r 0 1).2.1 ≤ ab_b zk → ab_b zk ≤ (w_r 0 1).2.2 → ab_top.2.1 ≤ ab_b zf → ab_b zf ≤ ab_top.2.2 → ab_top.2.1 ≤ ab_b zg → ab_b zg ≤ ab_top.2.2 → kc_al mc (some (.int zk)) (some (.int zf)) (some (.int zg)) := by
  intro zk zf zg h1 h2 _ _ _ _
  have h1 : 2147483648 ≤ ab_b zk := h1
  have h2 : ab_b zk ≤ 2147483649 := h2
  refine ⟨zk, rfl, ?_⟩
  have : ab_b zk = 2147483648 ∨ ab_b zk = 2147483649 := by omega
  rcases this with e | e
  · exact Or.inl (ab_b_inj (by rw [e]; decide))
  · exact Or.inr (Or.inl (ab_b_inj (by rw [e]; decide)))
theorem kc_al2 (mc : Nat) : ∀ zk zf zg : Int32, (w_e 2).2.1 ≤ ab_b zk → ab_b zk ≤ (w_e 2).2.2 → (w_r 0 7).2.1 ≤ ab_b zf → ab_b zf ≤ (w_r 0 7).2.2 → ab_top.2.1 ≤ ab_b zg → ab_b zg ≤ ab_top.2.2 → kc_al mc (some (.int zk)) (some (.int zf)) (some (.int zg)) := by
  intro zk zf zg h1 h2 h3 h4 _ _
  have h1 : 2147483650 ≤ ab_b zk := h1
  have h2 : ab_b zk ≤ 2147483650 := h2
  refine ⟨zk, rfl, Or.inr (Or.inr (Or.inl ⟨ab_b_inj ?_, zf, rfl, h3, h4⟩))⟩
  have : ab_b zk = 2147483650 := by omega
  rw [this]
  decide
theorem kc_al3 (mc : Nat) : ∀ zk zf zg : Int32, (w_e 3).2.1 ≤ ab_b zk → ab_b zk ≤ (w_e 3).2.2 → (w_r 0 7).2.1 ≤ ab_b zf → ab_b zf ≤ (w_r 0 7).2.2 → (w_mm mc).2.1 ≤ ab_b zg → ab_b zg ≤ (w_mm mc).2.2 → kc_al mc (some (.int zk)) (some (.int zf)) (some (.int zg)) := by
  intro zk zf zg h1 h2 h3 h4 h5 h6
  have h1 : 2147483651 ≤ ab_b zk := h1
  have h2 : ab_b zk ≤ 2147483651 := h2
  refine ⟨zk, rfl, Or.inr (Or.inr (Or.inr ⟨ab_b_inj ?_, ⟨zf, rfl, h3, h4⟩, zg, rfl, h5, h6⟩))⟩
  have : ab_b zk = 2147483651 := by omega
  rw [this]
  decide
theorem wk_ms_ex : ∀ j mi, am_ms j = some mi → ∃ mf, wk_ms j = some mf := by
  intro j mi h
  have hj : j < am_msl.length := (List.getElem?_eq_some_iff.mp h).1
  have hl : am_msl.length = 146 := by decide +kernel
  obtain ⟨mf, -, h1, -⟩ := wk_all j (by omega)
  exact ⟨mf, h1⟩
