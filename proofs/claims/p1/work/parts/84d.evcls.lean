/-! ===== the class's run ===== -/
theorem ev_blk {f : Nat → Bool} (h0 : ((List.range 10).all fun i => f (Nat.add 0 i)) = true) (h1 : ((List.range 10).all fun i => f (Nat.add 10 i)) = true) (h2 : ((List.range 10).all fun i => f (Nat.add 20 i)) = true) (h3 : ((List.range 10).all fun i => f (Nat.add 30 i)) = true) (h4 : ((List.range 10).all fun i => f (Nat.add 40 i)) = true) (h5 : ((List.range 10).all fun i => f (Nat.add 50 i)) = true) : ∀ i, i < 60 → f i = true := by
  intro i hi
  have key : ∀ b, ((List.range 10).all fun i => f (Nat.add b i)) = true → b ≤ i → i < b + 10 → f i = true := fun b hb h1 h2 => by
    have := List.all_eq_true.mp hb (i - b) (List.mem_range.mpr (by omega))
    have e : Nat.add b (i - b) = i := by show b + (i - b) = i; omega
    rw [e] at this
    exact this
  by_cases g1 : i < 10
  · exact key 0 h0 (by omega) (by omega)
  · by_cases g2 : i < 20
    · exact key 10 h1 (by omega) (by omega)
    · by_cases g3 : i < 30
      · exact key 20 h2 (by omega) (by omega)
      · by_cases g4 : i < 40
        · exact key 30 h3 (by omega) (by omega)
        · by_cases g5 : i < 50
          · exact key 40 h4 (by omega) (by omega)
          · exact key 50 h5 (by omega) (by omega)
theorem ev_ct_ok : ∀ e ∈ (List.range 60).map ev_ce, ev_tbe [] e := fun e he => by
  obtain ⟨i, hi, rfl⟩ := List.mem_map.mp he
  exact (ev_ent 4000 (j := 23) (mf := fm_m23) (as := [2]) (H := ev_hc i) rfl (ev_hc_ok i) (ev_blk ev_cb0 ev_cb1 ev_cb2 ev_cb3 ev_cb4 ev_cb5 i (List.mem_range.mp hi))).1
set_option maxRecDepth 100000 in
theorem ev_cr : ((List.range 60).all fun n => fm_chk (ev_runT ((List.range 60).map ev_ce) 3000 am_o0 fm_m20 (0, fm_p [2, Nat.add (Nat.mul 8 (Nat.add n 1)) 1], [], ev_hc 0, 0, 0)) (.inl (some 1), ev_hc (Nat.add n 1), 0, 0)) = true := by decide +kernel
def ev_re (n : Nat) : Nat × List Nat × fm_H × fm_R := (20, [2, Nat.add (Nat.mul 8 (Nat.add n 1)) 1], ev_hc 0, (.inl (some 1), ev_hc (Nat.add n 1), 0, 0))
theorem ev_re_ok {n : Nat} (hn : n < 60) : ev_tbe [] (ev_re n) := (ev_entT 3000 (j := 20) (mf := fm_m20) ev_ct_ok rfl (ev_hc_ok 0) (List.all_eq_true.mp ev_cr n (List.mem_range.mpr hn))).1
