/-! ===== the class's run ===== -/
def ev_bl (f : Nat → Bool) (a : Nat) : Nat → Prop
  | 0 => True
  | n + 1 => f a = true ∧ ev_bl f (a + 1) n
theorem ev_bl_at {f : Nat → Bool} : ∀ {n a : Nat}, ev_bl f a n → ∀ i, i < n → f (a + i) = true
  | 0, _, _, i, hi => absurd hi (Nat.not_lt_zero i)
  | _ + 1, _, h, 0, _ => h.1
  | n + 1, a, h, i + 1, hi => by
    have := ev_bl_at (n := n) (a := a + 1) h.2 i (Nat.lt_of_succ_lt_succ hi)
    rw [show a + (i + 1) = a + 1 + i by omega]
    exact this
theorem ev_cbs : ev_bl ev_cc 0 60 := ⟨ev_cb0, ev_cb1, ev_cb2, ev_cb3, ev_cb4, ev_cb5, ev_cb6, ev_cb7, ev_cb8, ev_cb9, ev_cb10, ev_cb11, ev_cb12, ev_cb13, ev_cb14, ev_cb15, ev_cb16, ev_cb17, ev_cb18, ev_cb19, ev_cb20, ev_cb21, ev_cb22, ev_cb23, ev_cb24, ev_cb25, ev_cb26, ev_cb27, ev_cb28, ev_cb29, ev_cb30, ev_cb31, ev_cb32, ev_cb33, ev_cb34, ev_cb35, ev_cb36, ev_cb37, ev_cb38, ev_cb39, ev_cb40, ev_cb41, ev_cb42, ev_cb43, ev_cb44, ev_cb45, ev_cb46, ev_cb47, ev_cb48, ev_cb49, ev_cb50, ev_cb51, ev_cb52, ev_cb53, ev_cb54, ev_cb55, ev_cb56, ev_cb57, ev_cb58, ev_cb59, trivial⟩
theorem ev_ct_ok : ∀ e ∈ (List.range 60).map ev_ce, ev_tbe [] e := fun e he => by
  obtain ⟨i, hi, rfl⟩ := List.mem_map.mp he
  exact (ev_ent 4000 (j := 23) (mf := fm_m23) (as := [2]) (H := ev_hc i) rfl (ev_hc_ok i) (by have h := ev_bl_at ev_cbs i (List.mem_range.mp hi); rw [Nat.zero_add] at h; exact h)).1
set_option maxRecDepth 100000 in
theorem ev_cr : ((List.range 60).all fun n => fm_chk (ev_runT ((List.range 60).map ev_ce) 3000 am_o0 fm_m20 (0, fm_p [2, Nat.add (Nat.mul 8 (Nat.add n 1)) 1], [], ev_hc 0, 0, 0)) (.inl (some 1), ev_hc (Nat.add n 1), 0, 0)) = true := by decide +kernel
def ev_re (n : Nat) : Nat × List Nat × fm_H × fm_R := (20, [2, Nat.add (Nat.mul 8 (Nat.add n 1)) 1], ev_hc 0, (.inl (some 1), ev_hc (Nat.add n 1), 0, 0))
theorem ev_re_ok {n : Nat} (hn : n < 60) : ev_tbe [] (ev_re n) := (ev_entT 3000 (j := 20) (mf := fm_m20) ev_ct_ok rfl (ev_hc_ok 0) (List.all_eq_true.mp ev_cr n (List.mem_range.mpr hn))).1
