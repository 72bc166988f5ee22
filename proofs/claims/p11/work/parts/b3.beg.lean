/-! ===== the law's beginning; the law ===== -/
theorem ll_sp {xs : am_O} {pc ix j k q x : Nat} {d : Int} {lo : List (Option Value)} {r : List Value} {h : am_H} {mj : am_M} {cc : am_C} {Q : am_R → Prop} (hi : am_ins (am_c am_law) pc = some (.invokespecial ix, 3)) (hl : am_lk 10 ix = some (24, j, 0, d)) (hcell : h[x]? = some cc) (hr : am_cat r ≤ 8) (hj : am_ms j = some mj) (hroom : am_f mj + 1 ≤ am_f am_law ∧ 8 + (am_L mj + 11) + am_w mj ≤ am_w am_law ∧ 1 ≤ am_L mj) (hc : cl_Rn mj (0, [some (.ref x)] ++ List.replicate (am_L mj - 1) none, [], h, 0, 0) (fun r' => ∃ v h' k' q', r' = (.inl v, h', k', q') ∧ ll_R xs (pc + 3, lo, v.toList ++ r, h', k + k', q + q') Q)) : ll_R xs (pc, lo, .ref x :: r, h, k, q) Q := by
  have hx' : am_ask (24, j, 0, d) 1 pc lo (.ref x :: r) h k q = some (.inr (.inr (j, [.ref x], (pc, lo, r, h, k, q)))) :=
    ab_ask2 (kk := (24, j, 0, d)) (rc := 1) (y := x) (r := r) (st := .ref x :: r) (pc := pc) (lo' := lo) (k := k) (q := q) (by decide) rfl rfl hr rfl hcell (Or.inl rfl)
  refine ll_ca (as := [.ref x]) hi ?_ hj hroom hc
  have hl : am_lk (am_o am_law) ix = some (24, j, 0, d) := hl
  show (if (3 : Nat) = 3 then (match am_lk (am_o am_law) ix with
    | some kk => if kk.1 = 24 ∨ kk.1 = 25 then am_ask kk 1 pc lo (.ref x :: r) h k q
      else if kk.1 = 26 then (match (.ref x :: r : List Value) with
        | .ref _ :: r => if 1 ≤ am_f am_law ∧ am_cat r + 12 ≤ am_w am_law then am_go (pc + 3, lo, r, h, k, q) else none
        | _ => none)
      else none
    | none => none) else none) = _
  rw [if_pos rfl, hl]
  show (if (24 : Nat) = 24 ∨ (24 : Nat) = 25 then am_ask (24, j, 0, d) 1 pc lo (.ref x :: r) h k q else _) = _
  rw [if_pos (Or.inl rfl)]
  exact hx'
abbrev ll_v0 : List Value := [.null, .null, .null, .null, .null, .int 0, .int 0, .int 0]
abbrev ll_v9 : List Value := [.int 0, .int 0, .int 0, .int 0, .int 0, .null, .null, .int 0, .null, .null, .null, .null, .null, .null, .null, .null, .null, .null, .null, .int 0, .null, .null, .null, .null, .null, .int 0, .null, .null, .null, .null, .null, .null, .null, .null, .null, .null, .null, .null, .null, .null, .null, .int 0]
set_option maxRecDepth 100000 in
theorem ll_beg {xs : am_O} {hB hD : am_H} {Q : am_R → Prop} (run0 : cl_Rn am_m0 (0, [some (.ref 0)], [], [(0, ll_v0)], 0, 0) (fun r => r = (.inl none, hB, 306, 2280))) (lB : hB.length = 307) (run1 : cl_Rn am_m81 (0, [some (.ref 307), none], [], hB ++ [(9, ll_v9)], 0, 0) (fun r => r = (.inl none, hD, 33, 1760))) (lD : hD.length = 341) (hn : ll_R xs (23, [some (.retAddr 0), some (.ref 0), some (.ref 307), some (.ref 341), some (.int 0), none, none], [], hD ++ [(102, [.long 0])], 342, 4091) Q) : ll_R xs (0, [some (.retAddr 0), none, none, none, none, none, none], [], [], 0, 0) Q := by
  refine ll_st ll_i0 (S' := (3, [some (.retAddr 0), none, none, none, none, none, none], [.ref 0], [(0, ll_v0)], 1, 8)) rfl ?_
  refine ll_st ll_i3 (S' := (4, [some (.retAddr 0), none, none, none, none, none, none], [.ref 0, .ref 0], [(0, ll_v0)], 1, 8)) rfl ?_
  refine ll_sp (x := 0) (r := [.ref 0]) ll_i4 (j := 0) (d := 0) (by decide +kernel) (cc := (0, ll_v0)) rfl (Nat.le_of_ble_eq_true rfl) (mj := am_m0) rfl ⟨by decide, by decide, Nat.le_of_ble_eq_true rfl⟩ ?_
  refine Rn_mono run0 (fun r hr => ?_)
  subst hr
  refine ⟨none, hB, 306, 2280, rfl, ?_⟩
  show ll_R xs (7, [some (.retAddr 0), none, none, none, none, none, none], [.ref 0], hB, 307, 2288) Q
  refine ll_st ll_i7 (S' := (8, [some (.retAddr 0), some (.ref 0), none, none, none, none, none], [], hB, 307, 2288)) rfl ?_
  refine ll_st ll_i8 (S' := (11, [some (.retAddr 0), some (.ref 0), none, none, none, none, none], [.ref 307], hB ++ [(9, ll_v9)], 308, 2330)) ?_ ?_
  · show (some (Sum.inl (8 + 3, [some (.retAddr 0), some (.ref 0), none, none, none, none, none], [.ref hB.length], hB ++ [(9, ll_v9)], 307 + 1, 2288 + 42)) : Option am_X) = _
    rw [lB]
  refine ll_st ll_i11 (S' := (12, [some (.retAddr 0), some (.ref 0), none, none, none, none, none], [.ref 307, .ref 307], hB ++ [(9, ll_v9)], 308, 2330)) rfl ?_
  refine ll_sp (x := 307) (r := [.ref 307]) ll_i12 (j := 81) (d := 0) (by decide +kernel) (cc := (9, ll_v9)) (by rw [List.getElem?_append_right (by omega), lB]; rfl) (Nat.le_of_ble_eq_true rfl) (mj := am_m81) rfl ⟨by decide, by decide, Nat.le_of_ble_eq_true rfl⟩ ?_
  refine Rn_mono run1 (fun r hr => ?_)
  subst hr
  refine ⟨none, hD, 33, 1760, rfl, ?_⟩
  show ll_R xs (15, [some (.retAddr 0), some (.ref 0), none, none, none, none, none], [.ref 307], hD, 341, 4090) Q
  refine ll_st ll_i15 (S' := (16, [some (.retAddr 0), some (.ref 0), some (.ref 307), none, none, none, none], [], hD, 341, 4090)) rfl ?_
  refine ll_st ll_i16 (S' := (17, [some (.retAddr 0), some (.ref 0), some (.ref 307), none, none, none, none], [.int (Int32.ofInt 1)], hD, 341, 4090)) rfl ?_
  refine ll_st ll_i17 (S' := (19, [some (.retAddr 0), some (.ref 0), some (.ref 307), none, none, none, none], [.ref 341], hD ++ [(102, [.long 0])], 342, 4091)) ?_ ?_
  · show am_new 2 2 (.long 0) 2 17 [some (.retAddr 0), some (.ref 0), some (.ref 307), none, none, none, none] [.int (Int32.ofInt 1)] hD 341 4090 = _
    unfold am_new
    rw [if_pos rfl]
    dsimp only
    rw [if_neg (by decide), show (Int32.ofInt 1).toNatClampNeg = 1 by decide, if_pos (by decide), lD]
    rfl
  refine ll_st ll_i19 (S' := (20, [some (.retAddr 0), some (.ref 0), some (.ref 307), some (.ref 341), none, none, none], [], hD ++ [(102, [.long 0])], 342, 4091)) rfl ?_
  refine ll_st ll_i20 (S' := (21, [some (.retAddr 0), some (.ref 0), some (.ref 307), some (.ref 341), none, none, none], [.int 0], hD ++ [(102, [.long 0])], 342, 4091)) rfl ?_
  refine ll_st ll_i21 (S' := (23, [some (.retAddr 0), some (.ref 0), some (.ref 307), some (.ref 341), some (.int 0), none, none], [], hD ++ [(102, [.long 0])], 342, 4091)) rfl ?_
  exact hn
theorem ll_ahA : fm_ah [] ev_HA = [(0, ll_v0)] := by
  unfold ev_HA
  rw [fm_ah_al fm_ok_nil (by decide) (by decide) (by decide)]
  have e := fm_bl_ok 0 0 ll_v0 rfl
  show [] ++ [(0, (List.range 8).map fun j => fm_d 0 (fm_g (fm_bl 0) j))] = _
  rw [show ((List.range 8).map fun j => fm_d 0 (fm_g (fm_bl 0) j)) = ll_v0 from e]
  rfl
theorem ll_ahC : fm_ah [] ev_HC = fm_ah [] ev_HB ++ [(9, ll_v9)] := by
  unfold ev_HC
  rw [fm_ah_al s_r0.2 (by decide) (by decide) (by decide)]
  have e := fm_bl_ok 0 9 ll_v9 rfl
  rw [show ((List.range 42).map fun j => fm_d ([] : am_H).length (fm_g (fm_bl 9) j)) = ll_v9 from e]
/-- the law, at every script of at most 2048 ints -/
theorem ll_law {l : Nat} {kn : List (Nat × Int32)} {s : Nat → Int32} (hl : l ≤ 2048) (hkn : ∀ j, j < l → am_kn kn j = some (s j)) : ll_R (ll_x l kn) (0, [some (.retAddr 0), none, none, none, none, none, none], [], [], 0, 0) ll_Q := by
  have e0 : fm_as [] (am_L am_m0) (0, fm_p [2], [], ev_HA, 0, 0) = (0, [some (.ref 0)], [], fm_ah [] ev_HA, 0, 0) := rfl
  have e1 : fm_as [] (am_L am_m81) (0, fm_p [2458], [], ev_HC, 0, 0) = (0, [some (.ref 307), none], [], fm_ah [] ev_HC, 0, 0) := rfl
  have r0 := s_r0.1
  rw [e0, ll_ahA] at r0
  have r1 := s_r1.1
  rw [e1, ll_ahC] at r1
  refine ll_beg (hB := fm_ah [] ev_HB) (hD := fm_ah [] ev_HD) ⟨6000, _, r0, rfl⟩ (by rw [fm_ah_len]; rfl) ⟨6000, _, r1, rfl⟩ (by rw [fm_ah_len]; rfl) ?_
  have e : ll_lo s_u 0 none none = [some (.retAddr 0), some (.ref 0), some (.ref 307), some (.ref 341), some (.int 0), none, none] := by
    unfold ll_lo
    rw [s_u1, s_u40, s_u39]
  rw [← e]
  exact ll_loop hl hkn 513 0 0 none none s_h 342 4091 (by omega) (by decide) ab_b_0 ⟨ii_s, s_tau, 0, 2147483648, by decide, s_U, s_ut, ⟨Nat.le_refl _, by omega⟩, s_J, by omega, by omega⟩
