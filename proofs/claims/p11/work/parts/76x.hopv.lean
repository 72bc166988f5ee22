/-! ===== hops' contracts hold ===== -/
theorem wh_1_mem {c : Nat → List Nat} {f : Nat → Nat → Nat → ab_C} {n t : ab_V} {C : ab_C} (h : C ∈ wh_1 c f n t) : ∃ n' t' b, n' < 6 ∧ t' < 4 ∧ b ∈ c n' ∧ C = f n' t' b := by
  unfold wh_1 at h
  cases e : wh_ok n t with
  | false => rw [e] at h; cases h
  | true =>
    rw [e, cond_true] at h
    obtain ⟨b, hb, hC⟩ := List.mem_map.mp h
    obtain ⟨e, e6⟩ := ab_a2 e
    obtain ⟨e, e5⟩ := ab_a2 e
    obtain ⟨e, e4⟩ := ab_a2 e
    obtain ⟨e, e3⟩ := ab_a2 e
    have e4 : n.2.1 < 2147483654 := ab_blt e4
    have e6 : t.2.1 < 2147483652 := ab_blt e6
    obtain ⟨N, hN⟩ : ∃ N, N = Nat.sub n.2.1 2147483648 := ⟨_, rfl⟩
    obtain ⟨M, hM⟩ : ∃ M, M = Nat.sub t.2.1 2147483648 := ⟨_, rfl⟩
    have hN' : N = n.2.1 - 2147483648 := hN
    have hM' : M = t.2.1 - 2147483648 := hM
    rw [← hN] at hb
    rw [← hN, ← hM] at hC
    exact ⟨N, M, b, by omega, by omega, hb, hC.symm⟩
theorem wh_C_mem {j : Nat} {as : List ab_V} {C : ab_C} (h : C ∈ wh_C j as) : (j = 69 ∧ ∃ n t b, n < 6 ∧ t < 4 ∧ b ∈ wh_c n ∧ C = wh_ct n t b) ∨ (j = 70 ∧ ∃ n t b k, n < 6 ∧ t < 4 ∧ b ∈ wh_c n ∧ k < 6 ∧ C = wh_is n t b k) ∨ (j ≠ 69 ∧ j ≠ 70 ∧ ∃ n t b, n < 6 ∧ t < 4 ∧ b ∈ wh_d n ∧ C = wh_at n t b) := by
  unfold wh_C at h
  split at h
  · cases e : Nat.beq j 69 with
    | true =>
      rw [e, cond_true] at h
      exact Or.inl ⟨ab_beq e, wh_1_mem h⟩
    | false =>
      rw [e, cond_false] at h
      split at h
      · rename_i k l
        cases e2 : Nat.beq j 70 with
        | true =>
          rw [e2, cond_true] at h
          cases e3 : (ab_exq k && Nat.ble 2147483648 k.2.1 && Nat.blt k.2.1 2147483654) with
          | false => rw [e3] at h; cases h
          | true =>
            rw [e3, cond_true] at h
            obtain ⟨n, t, b, h1, h2, h3, h4⟩ := wh_1_mem h
            have e5 : k.2.1 < 2147483654 := ab_blt (ab_a2 e3).2
            obtain ⟨M, hM⟩ : ∃ M, M = Nat.sub k.2.1 2147483648 := ⟨_, rfl⟩
            have hM' : M = k.2.1 - 2147483648 := hM
            rw [← hM] at h4
            exact Or.inr (Or.inl ⟨ab_beq e2, n, t, b, M, h1, h2, h3, by omega, h4⟩)
        | false =>
          rw [e2, cond_false] at h
          exact Or.inr (Or.inr ⟨Nat.ne_of_beq_eq_false e, Nat.ne_of_beq_eq_false e2, wh_1_mem h⟩)
      · cases h
  · cases h
theorem wh_cd {n b : Nat} (h : b ∈ wh_d n) : b ∈ wh_c n ∧ b ≠ 0 := by
  unfold wh_d at h
  unfold wh_c
  cases e : Nat.blt n 4 with
  | true =>
    rw [e, cond_true] at h
    rw [cond_true]
    refine ⟨List.mem_cons_of_mem _ h, fun e0 => ?_⟩
    subst e0
    revert h
    decide
  | false =>
    rw [e, cond_false] at h
    rw [cond_false]
    refine ⟨List.mem_cons_of_mem _ h, fun e0 => ?_⟩
    subst e0
    revert h
    decide
theorem wh_use {mc n t : Nat} (h : wh_n mc n t = true) : (∀ b ∈ wh_c n, wh_u mc 69 (wh_ct n t b) 0 (wh_es (wh_ct n t b) 0) = true ∧ ∀ k, k < 6 → wh_u mc 70 (wh_is n t b k) 0 (wh_es (wh_is n t b k) 0) = true) ∧ ∀ b ∈ wh_d n, wh_u mc 68 (wh_at n t b) 1 (wh_ea n t b) = true := by
  have h := List.all_eq_true.mp h
  refine ⟨fun b hb => ?_, fun b hb => ?_⟩
  · obtain ⟨h1, -⟩ := ab_a2 (h b hb)
    obtain ⟨h1, h2⟩ := ab_a2 h1
    refine ⟨h1, fun k hk => List.all_eq_true.mp h2 k ?_⟩
    match k, hk with
    | 0, _ => decide
    | 1, _ => decide
    | 2, _ => decide
    | 3, _ => decide
    | 4, _ => decide
    | 5, _ => decide
  · obtain ⟨hb1, hb2⟩ := wh_cd hb
    obtain ⟨-, h2⟩ := ab_a2 (h b hb1)
    rcases Bool.or_eq_true_iff.mp h2 with e | e
    · exact absurd (ab_beq e) hb2
    · exact e
