/-! ===== what frames hold together, by their kinds ===== -/
theorem kc_al01 (mc : Nat) : ∀ zk zf zg : Int32, (w_r 0 1).2.1 ≤ ab_b zk → ab_b zk ≤ (w_r 0 1).2.2 → ab_top.2.1 ≤ ab_b zf → ab_b zf ≤ ab_top.2.2 → ab_top.2.1 ≤ ab_b zg → ab_b zg ≤ ab_top.2.2 → kc_al mc (some (.int zk)) (some (.int zf)) (some (.int zg)) := by
  intro zk zf zg h1 h2 _ _ _ _
  have h1 : 2147483648 ≤ ab_b zk := h1
  have h2 : ab_b zk ≤ 2147483649 := h2
  refine ⟨zk, rfl, ?_⟩
  have : ab_b zk = 2147483648 ∨ ab_b zk = 2147483649 := by omega
  rcases this with e | e
  · exact Or.inl (ab_b_inj (by rw [e]; decide))
  · exact Or.inr (Or.inl (ab_b_inj (by rw [e]; decide)))
theorem kc_al2 (mc : Nat) : ∀ zk zf zg : Int32, (w_e 2).2.1 ≤ ab_b zk → ab_b zk ≤ (w_e 2).2.2 → (w_r 0 7).2.1 ≤ ab_b zf → ab_b zf ≤ (w_r 0 7).2.2 → ab_top.2.1 ≤ ab_b zg → ab_b zg ≤ ab_top.2.2 → kc_al mc (some (.int zk)) (some (.int zf)) (some (.int zg)) := by
  intro zk zf zg h1 h2 h3 h4 _ _
  have h1 : 2147483650 ≤ ab_b zk := h1
  have h2 : ab_b zk ≤ 2147483650 := h2
  refine ⟨zk, rfl, Or.inr (Or.inr (Or.inl ⟨ab_b_inj ?_, zf, rfl, h3, h4⟩))⟩
  have : ab_b zk = 2147483650 := by omega
  rw [this]
  decide
theorem kc_al3 (mc : Nat) : ∀ zk zf zg : Int32, (w_e 3).2.1 ≤ ab_b zk → ab_b zk ≤ (w_e 3).2.2 → (w_r 0 7).2.1 ≤ ab_b zf → ab_b zf ≤ (w_r 0 7).2.2 → (w_mm mc).2.1 ≤ ab_b zg → ab_b zg ≤ (w_mm mc).2.2 → kc_al mc (some (.int zk)) (some (.int zf)) (some (.int zg)) := by
  intro zk zf zg h1 h2 h3 h4 h5 h6
  have h1 : 2147483651 ≤ ab_b zk := h1
  have h2 : ab_b zk ≤ 2147483651 := h2
  refine ⟨zk, rfl, Or.inr (Or.inr (Or.inr ⟨ab_b_inj ?_, ⟨zf, rfl, h3, h4⟩, zg, rfl, h5, h6⟩))⟩
  have : ab_b zk = 2147483651 := by omega
  rw [this]
  decide
theorem wk_lt {j : Nat} (h : ¬ j < 146 → False) : ∃ mf, wk_ms j = some mf := by
  by_cases hj : j < 146
  · obtain ⟨mf, -, h1, -⟩ := wk_all j hj
    exact ⟨mf, h1⟩
  · exact (h hj).elim
theorem wk_b146 {α : Type} {j : Nat} {a : List α} (hj : ¬ j < 146) : (bif Nat.blt j 146 then a else []) = [] := by
  have : Nat.blt j 146 = false := by
    cases e : Nat.blt j 146 with
    | false => rfl
    | true => exact absurd (ab_blt e) hj
  rw [this]
  rfl
section ABI2
variable {fty : Nat → Nat → Option FieldType} {dfl : Nat → Option (List Value)} {cmp : Nat → Option (Option Nat)} {lk : Nat → Nat → Option am_K} {ms : Nat → Option am_M} {cx : Nat → Option Nat}
variable {kd : Nat → Nat × Nat} {un uq : Nat → Bool} {Gm : Nat → Nat → List ab_V} {wms : Nat → Option fm_M} {Ct : Nat → List ab_V → List ab_C}
variable {τ u : Nat → Nat} {tv : Nat} {K : am_H → Prop} {P0 P1 : am_H → Nat}
theorem ab_ind2 (hms : ∀ j as C, C ∈ Ct j as → ∃ mf, wms j = some mf) (H : ∀ n, (∀ j as C mj, C ∈ Ct j as → wms j = some mj → mj.2.2.2.1 < n → ab_Vd fty dfl cmp lk ms cx kd un uq Gm τ u tv K P0 P1 j C) → ∀ j as C mj, C ∈ Ct j as → wms j = some mj → mj.2.2.2.1 = n → ab_Vd fty dfl cmp lk ms cx kd un uq Gm τ u tv K P0 P1 j C) : ∀ j as C, C ∈ Ct j as → ab_Vd fty dfl cmp lk ms cx kd un uq Gm τ u tv K P0 P1 j C := by
  have key : ∀ n, ∀ j as C mj, C ∈ Ct j as → wms j = some mj → mj.2.2.2.1 < n → ab_Vd fty dfl cmp lk ms cx kd un uq Gm τ u tv K P0 P1 j C := by
    intro n
    induction n with
    | zero => intro j as C mj _ _ h; exact absurd h (Nat.not_lt_zero _)
    | succ n ih =>
      intro j as C mj h1 h2 h3
      by_cases e : mj.2.2.2.1 < n
      · exact ih j as C mj h1 h2 e
      · exact H n ih j as C mj h1 h2 (by omega)
  intro j as C hC
  obtain ⟨mf, hmf⟩ := hms j as C hC
  exact key (mf.2.2.2.1 + 1) j as C mf hC hmf (Nat.lt_succ_self _)
end ABI2
