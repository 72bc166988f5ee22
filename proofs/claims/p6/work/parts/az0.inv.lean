/-! ===== what every call but directory leaves: whether the directory can be reached ===== -/
def ii_F (t i : Nat) : Bool := (Nat.beq t 1 && Nat.beq i 2) || (Nat.beq t 9 && Nat.beq i 41)
def ii_bt : Bool := false
def ii_A (j : Nat) : Bool := !(Nat.beq j 0 || Nat.beq j 2 || Nat.beq j 35 || Nat.beq j 87)
theorem ii_hF : ∀ t i, ii_F t i = true → t < 100 := by
  intro t i h
  rcases Bool.or_eq_true_iff.mp h with e | e <;> (have := Nat.eq_of_beq_eq_true (Bool.and_eq_true_iff.mp e).1; omega)
set_option maxRecDepth 100000 in
theorem ii_Ac : (List.range 146).all (fun j => !ii_A j || (match am_ms j with
    | some mj => fz_m ii_F ii_bt ii_A 0 mj
    | none => true)) = true := by decide +kernel
theorem ii_len : am_msl.length = 146 := by decide +kernel
theorem ii_hA : ∀ j mj, ii_A j = true → am_ms j = some mj → fz_m ii_F ii_bt ii_A 0 mj = true := by
  intro j mj h1 h2
  have hj : j < 146 := by
    have := (List.getElem?_eq_some_iff.mp (show am_msl[j]? = some mj from h2)).1
    rw [ii_len] at this
    exact this
  have := List.all_eq_true.mp ii_Ac j (List.mem_range.mpr hj)
  rw [h1, h2] at this
  exact this
theorem ii_c {j : Nat} {mj : am_M} (hj : am_ms j = some mj) (hA : ii_A j = true) {S : am_S} {Q : am_R → Prop} (h : cl_Rn mj S Q) : cl_Rn mj S (fun r => Q r ∧ fz_eq ii_F ii_bt S.2.2.2.1 r.2.1) := by
  obtain ⟨f, r, hr, hQ⟩ := h
  exact ⟨f, r, hr, hQ, fz_run ii_hF ii_hA f _ 0 mj S r (ii_hA j mj hA hj) (Nat.zero_le _) hr⟩
theorem Rn_and {mi : am_M} {S : am_S} {Q1 Q2 : am_R → Prop} (h1 : cl_Rn mi S Q1) (h2 : cl_Rn mi S Q2) : cl_Rn mi S (fun r => Q1 r ∧ Q2 r) := by
  obtain ⟨f1, r1, e1, q1⟩ := h1
  obtain ⟨f2, r2, e2, q2⟩ := h2
  have a1 := am_mono e1 (Nat.le_add_right f1 f2)
  have a2 := am_mono e2 (Nat.le_add_left f2 f1)
  rw [a1] at a2
  cases a2
  exact ⟨f1, r1, e1, q1, q2⟩
theorem fz_sl {F : Nat → Nat → Bool} {bt : Bool} {h h' : am_H} {a t i : Nat} {vs : List Value} (hf : fz_eq F bt h h') (e : h[a]? = some (t, vs)) (hF : F t i = true) : ab_sl h' a i = ab_sl h a i := by
  obtain ⟨vs', e', p, -⟩ := hf a t vs e
  unfold ab_sl
  rw [e, e']
  exact p i hF
theorem ii_at {τ u : Nat → Nat} {mc Tc Tm : Nat} {h : am_H} (hut : ∀ k, w_uq k = true → τ (u k) = k) (hJ : j_J τ u mc Tc Tm h) (k : Nat) (hk : w_uq k = true) (h0 : k ≠ 0) : ∃ vs, h[u k]? = some ((w_kd k).1, vs) := by
  have e := hut k hk
  obtain ⟨vs, h1, -, -⟩ := hJ.1 (u k) (by rw [e]; exact h0)
  rw [e] at h1
  exact ⟨vs, h1⟩
/-- reachable and apart -/
def ii_I (u : Nat → Nat) (h : am_H) : Prop := ∃ zD zA : Int32, ab_sl h (u 4) 2 = some (.int zD) ∧ ab_sl h (u 40) 41 = some (.int zA) ∧ ((zD = 1 ∧ zA = 0) ∨ (zD = 0 ∧ zA = 1))
theorem ii_k {τ u : Nat → Nat} {mc Tc Tm : Nat} {h h' : am_H} (hut : ∀ k, w_uq k = true → τ (u k) = k) (hJ : j_J τ u mc Tc Tm h) (hf : fz_eq ii_F ii_bt h h') (hi : ii_I u h) : ii_I u h' := by
  obtain ⟨zD, zA, h1, h2, h3⟩ := hi
  obtain ⟨v4, e4⟩ := ii_at hut hJ 4 (by decide +kernel) (by decide)
  obtain ⟨v40, e40⟩ := ii_at hut hJ 40 (by decide +kernel) (by decide)
  exact ⟨zD, zA, by rw [fz_sl hf e4 (by decide +kernel)]; exact h1, by rw [fz_sl hf e40 (by decide +kernel)]; exact h2, h3⟩
