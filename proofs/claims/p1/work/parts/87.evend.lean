/-! ===== every script of at most four ints ===== -/
theorem ev_four (sc : am_Sy) : ev_End sc 4 := by
  obtain ⟨v, hv, h0⟩ := ev_mask (sc.2 0)
  match v, hv, h0 with
  | 0, _, h0 => exact ev_g0 sc h0
  | 1, _, h0 => exact ev_g1 sc h0
  | 2, _, h0 => exact ev_g2 sc h0
  | 3, _, h0 => exact ev_g3 sc h0
  | 4, _, h0 => exact ev_g4 sc h0
  | 5, _, h0 => exact ev_g5 sc h0
  | 6, _, h0 => exact ev_g6 sc h0
  | 7, _, h0 => exact ev_g7 sc h0
  | 8, _, h0 => exact ev_g8 sc h0
  | 9, _, h0 => exact ev_g9 sc h0
  | 10, _, h0 => exact ev_g10 sc h0
  | 11, _, h0 => exact ev_g11 sc h0
  | 12, _, h0 => exact ev_g12 sc h0
  | 13, _, h0 => exact ev_g13 sc h0
  | 14, _, h0 => exact ev_g14 sc h0
  | 15, _, h0 => exact ev_g15 sc h0
  | 16, _, h0 => exact ev_g16 sc h0
  | 17, _, h0 => exact ev_g17 sc h0
  | 18, _, h0 => exact ev_g18 sc h0
  | 19, _, h0 => exact ev_g19 sc h0
  | 20, _, h0 => exact ev_g20 sc h0
  | 21, _, h0 => exact ev_g21 sc h0
  | 22, _, h0 => exact ev_g22 sc h0
  | 23, _, h0 => exact ev_g23 sc h0
  | 24, _, h0 => exact ev_g24 sc h0
  | 25, _, h0 => exact ev_g25 sc h0
  | 26, _, h0 => exact ev_g26 sc h0
  | 27, _, h0 => exact ev_g27 sc h0
  | 28, _, h0 => exact ev_g28 sc h0
  | 29, _, h0 => exact ev_g29 sc h0
  | 30, _, h0 => exact ev_g30 sc h0
  | 31, _, h0 => exact ev_g31 sc h0
  | n + 32, h, _ => exact absurd h (by omega)
theorem ev_ends (sc : am_Sy) {l : Nat} (hl : l ≤ 4) : ev_End sc l := by
  by_cases h : l < 4
  · exact ev_short_ok sc h
  · have : l = 4 := by omega
    subst this
    exact ev_four sc
