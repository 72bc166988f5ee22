/-! ===== frames ===== -/
theorem Rn_and {mi : am_M} {S : am_S} {Q1 Q2 : am_R → Prop} (h1 : cl_Rn mi S Q1) (h2 : cl_Rn mi S Q2) : cl_Rn mi S (fun r => Q1 r ∧ Q2 r) := by
  obtain ⟨f1, r1, e1, q1⟩ := h1
  obtain ⟨f2, r2, e2, q2⟩ := h2
  have a1 := am_mono e1 (Nat.le_add_right f1 f2)
  have a2 := am_mono e2 (Nat.le_add_left f2 f1)
  rw [a1] at a2
  cases a2
  exact ⟨f1, r1, e1, q1, q2⟩
theorem fz_row {F : Nat → Nat → Bool} {bt : Nat → Bool} {h h' : am_H} {a t : Nat} {vs : List Value} (hf : fz_eq F bt h h') (e : h[a]? = some (t, vs)) (hb : bt t = true) : h'[a]? = some (t, vs) := by
  obtain ⟨vs', e', -, p⟩ := hf a t vs e
  rw [e', p hb]
theorem fz_cel {F : Nat → Nat → Bool} {bt : Nat → Bool} {h h' : am_H} {a t : Nat} {vs : List Value} (hf : fz_eq F bt h h') (e : h[a]? = some (t, vs)) : ∃ vs', h'[a]? = some (t, vs') ∧ ∀ i, F t i = true → vs'[i]? = vs[i]? := by
  obtain ⟨vs', e', p, -⟩ := hf a t vs e
  exact ⟨vs', e', p⟩
theorem ii_at {τ u : Nat → Nat} {mc Tc Tm : Nat} {h : am_H} (hut : ∀ k, w_uq k = true → τ (u k) = k) (hJ : j_J τ u mc Tc Tm h) (k : Nat) (hk : w_uq k = true) (h0 : k ≠ 0) : ∃ vs, h[u k]? = some ((w_kd k).1, vs) := by
  have e := hut k hk
  obtain ⟨vs, h1, -, -⟩ := hJ.1 (u k) (by rw [e]; exact h0)
  rw [e] at h1
  exact ⟨vs, h1⟩
