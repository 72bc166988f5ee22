/-! ===== the law's run, all ints of the script known ===== -/
def ll_kn (s : Nat → Int32) (l : Nat) : List (Nat × Int32) := (List.range l).map fun j => (j, s j)
theorem ll_kn_at (s : Nat → Int32) : ∀ (L : List Nat) (j : Nat), j ∈ L → am_kn (L.map fun j => (j, s j)) j = some (s j)
  | [], _, h => by cases h
  | i :: L, j, h => by
    show (bif Nat.beq i j then some (s i) else am_kn (L.map fun j => (j, s j)) j) = some (s j)
    cases e : Nat.beq i j with
    | true => rw [Nat.eq_of_beq_eq_true e]; rfl
    | false =>
      rcases List.mem_cons.mp h with rfl | g
      · exact absurd (Nat.beq_refl j) (by rw [e]; decide)
      · exact ll_kn_at s L j g
abbrev ev_lo : List (Option Value) := [some (.retAddr 0), none, none, none, none, none, none]
theorem ll_end (sc : am_Sy) {l : Nat} (hl : l ≤ 2048) : ∃ os : am_O, os.1 = some l ∧ am_Or sc os ∧ ∃ (g : Nat) (r : am_R), am_run am_fty am_dfl am_cmp am_lk am_ms am_cx os g am_law (0, ev_lo, [], [], 0, 0) = some r ∧ r.1 = .inl (some (.int 1)) ∧ r.2.2.1 ≤ room_1.cells ∧ r.2.2.2 ≤ room_1.slots := by
  obtain ⟨g, r, h1, h', k', q', rfl, h2, h3⟩ := ll_law (l := l) (kn := ll_kn sc.2 l) (s := sc.2) hl (fun j hj => ll_kn_at sc.2 (List.range l) j (List.mem_range.mpr hj))
  refine ⟨ll_x l (ll_kn sc.2 l), rfl, ⟨fun x hx => ?_, fun x hx => (by cases hx), fun x hx => (by cases hx)⟩, g, _, h1, rfl, Nat.le_trans h2 (by decide), Nat.le_trans h3 (by decide)⟩
  obtain ⟨j, -, rfl⟩ := List.mem_map.mp hx
  rfl
