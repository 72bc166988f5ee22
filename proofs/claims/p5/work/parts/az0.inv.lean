/-! ===== what every call but link leaves: which links are down ===== -/
def ii_F (_ _ : Nat) : Bool := false
def ii_bt (t : Nat) : Bool := Nat.beq t 101
def ii_A (j : Nat) : Bool := !(Nat.beq j 18 || Nat.beq j 75 || Nat.beq j 106 || Nat.beq j 135)
theorem ii_hF : ∀ t i, ii_F t i = true → t < 100 := by
  intro t i h
  cases h
theorem ii_hB : ∀ t, ii_bt t = true → t = 101 ∨ t = 102 := fun t h => Or.inl (Nat.eq_of_beq_eq_true h)
set_option maxRecDepth 100000 in
theorem ii_Ac : (List.range 147).all (fun j => !ii_A j || (match am_ms j with
    | some mj => fz_m ii_F ii_bt ii_A 0 mj
    | none => true)) = true := by decide +kernel
theorem ii_len : am_msl.length = 147 := by decide +kernel
theorem ii_hA : ∀ j mj, ii_A j = true → am_ms j = some mj → fz_m ii_F ii_bt ii_A 0 mj = true := by
  intro j mj h1 h2
  have hj : j < 147 := by
    have := (List.getElem?_eq_some_iff.mp (show am_msl[j]? = some mj from h2)).1
    rw [ii_len] at this
    exact this
  have := List.all_eq_true.mp ii_Ac j (List.mem_range.mpr hj)
  rw [h1, h2] at this
  exact this
theorem ii_c {j : Nat} {mj : am_M} (hj : am_ms j = some mj) (hA : ii_A j = true) {S : am_S} {Q : am_R → Prop} (h : cl_Rn mj S Q) : cl_Rn mj S (fun r => Q r ∧ fz_eq ii_F ii_bt S.2.2.2.1 r.2.1) := by
  obtain ⟨f, r, hr, hQ⟩ := h
  exact ⟨f, r, hr, hQ, fz_run ii_hF ii_hB ii_hA f _ 0 mj S r (ii_hA j mj hA hj) (Nat.zero_le _) hr⟩
theorem Rn_and {mi : am_M} {S : am_S} {Q1 Q2 : am_R → Prop} (h1 : cl_Rn mi S Q1) (h2 : cl_Rn mi S Q2) : cl_Rn mi S (fun r => Q1 r ∧ Q2 r) := by
  obtain ⟨f1, r1, e1, q1⟩ := h1
  obtain ⟨f2, r2, e2, q2⟩ := h2
  have a1 := am_mono e1 (Nat.le_add_right f1 f2)
  have a2 := am_mono e2 (Nat.le_add_left f2 f1)
  rw [a1] at a2
  cases a2
  exact ⟨f1, r1, e1, q1, q2⟩
theorem fz_row {F : Nat → Nat → Bool} {bt : Nat → Bool} {h h' : am_H} {a t : Nat} {vs : List Value} (hf : fz_eq F bt h h') (e : h[a]? = some (t, vs)) (hb : bt t = true) : h'[a]? = some (t, vs) := by
  obtain ⟨vs', e', -, p⟩ := hf a t vs e
  rw [e', p hb]
theorem fz_cel {F : Nat → Nat → Bool} {bt : Nat → Bool} {h h' : am_H} {a t : Nat} {vs : List Value} (hf : fz_eq F bt h h') (e : h[a]? = some (t, vs)) : ∃ vs', h'[a]? = some (t, vs') ∧ ∀ i, F t i = true → vs'[i]? = vs[i]? := by
  obtain ⟨vs', e', p, -⟩ := hf a t vs e
  exact ⟨vs', e', p⟩
theorem ii_at {τ u : Nat → Nat} {mc Tc Tm : Nat} {h : am_H} (hut : ∀ k, w_uq k = true → τ (u k) = k) (hJ : j_J τ u mc Tc Tm h) (k : Nat) (hk : w_uq k = true) (h0 : k ≠ 0) : ∃ vs, h[u k]? = some ((w_kd k).1, vs) := by
  have e := hut k hk
  obtain ⟨vs, h1, -, -⟩ := hJ.1 (u k) (by rw [e]; exact h0)
  rw [e] at h1
  exact ⟨vs, h1⟩
/-- the same links are down -/
def ii_I (u : Nat → Nat) (h : am_H) : Prop := ∃ vs, h[u 8]? = some (101, vs) ∧ h[u 41]? = some (101, vs) ∧ vs.length = 8 ∧ ∀ i, i < 8 → vs[i]? = some (.int 0) ∨ vs[i]? = some (.int 1)
theorem ii_k {τ u : Nat → Nat} {mc Tc Tm : Nat} {h h' : am_H} (_ : ∀ k, w_uq k = true → τ (u k) = k) (_ : j_J τ u mc Tc Tm h) (hf : fz_eq ii_F ii_bt h h') (hi : ii_I u h) : ii_I u h' := by
  obtain ⟨vs, h1, h2, h3⟩ := hi
  exact ⟨vs, fz_row hf h1 rfl, fz_row hf h2 rfl, h3⟩
