/-! ===== a run that is known to end, taken apart ===== -/
abbrev Rd (mi : am_M) (S : am_S) (r : am_R) : Prop := ∃ f, am_run am_fty am_dfl am_cmp am_lk am_ms am_cx am_o0 f mi S = some r
theorem Rd_det {mi : am_M} {S : am_S} {r : am_R} {Q : am_R → Prop} (h : cl_Rn mi S Q) (hr : Rd mi S r) : Q r := by
  obtain ⟨f1, r1, e1, q⟩ := h
  obtain ⟨f2, e2⟩ := hr
  have a1 := am_mono e1 (Nat.le_add_right f1 f2)
  have a2 := am_mono e2 (Nat.le_add_left f2 f1)
  rw [a1] at a2
  cases a2
  exact q
theorem Rn_rd {mi : am_M} {S : am_S} {Q : am_R → Prop} (h : cl_Rn mi S Q) : cl_Rn mi S (fun r => Q r ∧ Rd mi S r) := by
  obtain ⟨f, r, e, q⟩ := h
  exact ⟨f, r, e, q, f, e⟩
theorem iv_st {mi : am_M} {S S' : am_S} {r : am_R} (hs : am_step am_fty am_dfl am_cmp am_lk am_o0 mi S = some (.inl S')) (h : Rd mi S r) : Rd mi S' r := by
  obtain ⟨f, e⟩ := h
  cases f with
  | zero => cases e
  | succ f =>
    unfold am_run at e
    rw [hs] at e
    exact ⟨f, e⟩
theorem iv_en {mi : am_M} {S : am_S} {r r' : am_R} (hs : am_step am_fty am_dfl am_cmp am_lk am_o0 mi S = some (.inr (.inl r'))) (h : Rd mi S r) : r = r' := by
  obtain ⟨f, e⟩ := h
  cases f with
  | zero => cases e
  | succ f =>
    unfold am_run at e
    rw [hs] at e
    exact (Option.some.inj e).symm
def iv_C (mi mj : am_M) (as : List Value) (pc : Nat) (lo : List (Option Value)) (st : List Value) (h : am_H) (k q : Nat) (r : am_R) : Prop := ∃ r1, Rd mj (0, as.map some ++ List.replicate (am_L mj - as.length) none, [], h, 0, 0) r1 ∧ ((∃ v h' k' q', r1 = (.inl v, h', k', q') ∧ Rd mi (pc + 3, lo, v.toList ++ st, h', k + k', q + q') r) ∨ (∃ x h' k' q' c t, r1 = (.inr x, h', k', q') ∧ h'[x]? = some c ∧ am_catch am_cx (am_h mi) pc c.1 = some t ∧ Rd mi (t, lo, [.ref x], h', k + k', q + q') r))
theorem iv_ca {mi mj : am_M} {S : am_S} {r : am_R} {j pc k q : Nat} {as : List Value} {lo : List (Option Value)} {st : List Value} {h : am_H} (hs : am_step am_fty am_dfl am_cmp am_lk am_o0 mi S = some (.inr (.inr (j, as, (pc, lo, st, h, k, q))))) (hj : am_ms j = some mj) (hr : Rd mi S r) : iv_C mi mj as pc lo st h k q r := by
  obtain ⟨f, e⟩ := hr
  cases f with
  | zero => cases e
  | succ f =>
    unfold am_run at e
    rw [hs] at e
    dsimp only at e
    rw [hj] at e
    dsimp only at e
    split at e
    · split at e
      · rename_i v h' k' q' hr
        exact ⟨_, ⟨f, hr⟩, Or.inl ⟨v, h', k', q', rfl, f, e⟩⟩
      · rename_i x h' k' q' hr
        split at e
        · split at e
          · rename_i kk c hl hx
            split at e
            · split at e
              · rename_i t ht
                exact ⟨_, ⟨f, hr⟩, Or.inr ⟨x, h', k', q', c, t, rfl, hx, ht, f, e⟩⟩
              · cases e
            · cases e
          · cases e
        · cases e
      · cases e
    · cases e
section IW
variable {mi : am_M} {mf : fm_M} {pc op a b c d k q : Nat} {lo : List (Option Value)} {st : List Value} {h : am_H} {rr : am_R}
theorem iw_st {S' : am_S} (hmf : wk_mck am_fty am_lk wk_tls mi mf = true) (hw : wk_at mf pc op a b c d = true) (hr : Rd mi (pc, lo, st, h, k, q) rr) (hx : wk_ex wk_tls am_cmp op a b c d pc lo st h k q = some (.inl S')) : Rd mi S' rr := iv_st (rs_am (dfl := am_dfl) hmf hw hx) hr
theorem iw_en {r' : am_R} (hmf : wk_mck am_fty am_lk wk_tls mi mf = true) (hw : wk_at mf pc op a b c d = true) (hr : Rd mi (pc, lo, st, h, k, q) rr) (hx : wk_ex wk_tls am_cmp op a b c d pc lo st h k q = some (.inr (.inl r'))) : rr = r' := iv_en (rs_am (dfl := am_dfl) hmf hw hx) hr
theorem iw_get {x : Nat} {r vs : List Value} {v : Value} (hmf : wk_mck am_fty am_lk wk_tls mi mf = true) (hw : wk_at mf pc 25 a b c d = true) (hc : h[x]? = some (a, vs)) (hv : vs[b]? = some v) (hr : Rd mi (pc, lo, .ref x :: r, h, k, q) rr) : Rd mi (pc + 3, lo, v :: r, h, k, q) rr := by
  refine iw_st hmf hw hr ?_
  simp only [wk_ex]
  rw [ab_arr hc]
  dsimp only
  rw [hv]
  rfl
theorem iw_bal {x : Nat} {r vs : List Value} {i v : Int32} (hmf : wk_mck am_fty am_lk wk_tls mi mf = true) (hw : wk_at mf pc 28 a b c d = true) (hc : h[x]? = some (101, vs)) (hi : 2147483648 ≤ ab_b i) (hv : vs[ab_b i - 2147483648]? = some (.int v)) (hr : Rd mi (pc, lo, .int i :: .ref x :: r, h, k, q) rr) : Rd mi (pc + 1, lo, .int v :: r, h, k, q) rr := by
  have e : am_rd vs i = some (.int v) := by
    unfold am_rd
    rw [if_neg (ab_ix hi).1, (ab_ix hi).2]
    exact hv
  refine iw_st hmf hw hr ?_
  simp only [wk_ex]
  rw [ab_arr hc]
  dsimp only
  rw [e]
  rfl
theorem iw_bas {x : Nat} {r vs : List Value} {i v : Int32} (hmf : wk_mck am_fty am_lk wk_tls mi mf = true) (hw : wk_at mf pc 32 a b c d = true) (hc : h[x]? = some (101, vs)) (hi : 2147483648 ≤ ab_b i) (hl : ab_b i - 2147483648 < vs.length) (hb : am_bit v = true) (hr : Rd mi (pc, lo, .int v :: .int i :: .ref x :: r, h, k, q) rr) : Rd mi (pc + 1, lo, r, h.set x (101, vs.set (ab_b i - 2147483648) (.int v)), k, q) rr := by
  have e : am_wr h x 101 vs i (.int v) = some (h.set x (101, vs.set (ab_b i - 2147483648) (.int v))) := by
    unfold am_wr
    rw [if_neg (ab_ix hi).1, (ab_ix hi).2, if_pos hl]
  refine iw_st hmf hw hr ?_
  simp only [wk_ex]
  rw [ab_arr hc]
  dsimp only
  rw [if_pos hb, e]
  rfl
theorem iw_ift {x : Int32} {r : List Value} (hmf : wk_mck am_fty am_lk wk_tls mi mf = true) (hw : wk_at mf pc 22 a b c d = true) (hc : wk_c a x 0 = true) (hr : Rd mi (pc, lo, .int x :: r, h, k, q) rr) : Rd mi (b, lo, r, h, k, q) rr := by
  refine iw_st hmf hw hr ?_
  simp only [wk_ex]
  rw [hc]
  rfl
theorem iw_iff {x : Int32} {r : List Value} (hmf : wk_mck am_fty am_lk wk_tls mi mf = true) (hw : wk_at mf pc 22 a b c d = true) (hc : wk_c a x 0 = false) (hr : Rd mi (pc, lo, .int x :: r, h, k, q) rr) : Rd mi (pc + 3, lo, r, h, k, q) rr := by
  refine iw_st hmf hw hr ?_
  simp only [wk_ex]
  rw [hc]
  rfl
theorem iw_ict {x y : Int32} {r : List Value} (hmf : wk_mck am_fty am_lk wk_tls mi mf = true) (hw : wk_at mf pc 23 a b c d = true) (hc : wk_c a x y = true) (hr : Rd mi (pc, lo, .int y :: .int x :: r, h, k, q) rr) : Rd mi (b, lo, r, h, k, q) rr := by
  refine iw_st hmf hw hr ?_
  simp only [wk_ex]
  rw [hc]
  rfl
theorem iw_icf {x y : Int32} {r : List Value} (hmf : wk_mck am_fty am_lk wk_tls mi mf = true) (hw : wk_at mf pc 23 a b c d = true) (hc : wk_c a x y = false) (hr : Rd mi (pc, lo, .int y :: .int x :: r, h, k, q) rr) : Rd mi (pc + 3, lo, r, h, k, q) rr := by
  refine iw_st hmf hw hr ?_
  simp only [wk_ex]
  rw [hc]
  rfl
theorem iw_not {b : Int32} (hmf : wk_mck am_fty am_lk wk_tls mi mf = true) (w0 : wk_at mf pc 22 1 (pc + 7) 0 0 = true) (w3 : wk_at mf (pc + 3) 1 9 1 0 0 = true) (w4 : wk_at mf (pc + 4) 21 (pc + 8) 0 0 0 = true) (w7 : wk_at mf (pc + 7) 1 1 1 0 0 = true) (hr : Rd mi (pc, lo, .int b :: st, h, k, q) rr) : Rd mi (pc + 8, lo, .int (if b = 0 then 1 else 0) :: st, h, k, q) rr := by
  by_cases hb : b = 0
  · have hr := iw_iff hmf w0 (by show (!decide (b = 0)) = false; rw [decide_eq_true hb]; rfl) hr
    have hr := iw_st hmf w3 hr rfl
    have hr := iw_st hmf w4 hr rfl
    rw [if_pos hb]
    exact hr
  · have hr := iw_ift hmf w0 (by show (!decide (b = 0)) = true; rw [decide_eq_false hb]; rfl) hr
    have hr := iw_st hmf w7 hr rfl
    rw [if_neg hb]
    exact hr
theorem iw_iv {x : Nat} {r as : List Value} {mj : am_M} {cc : am_C} (hmf : wk_mck am_fty am_lk wk_tls mi mf = true) (hw : wk_at mf pc 40 a b 2 d = true) (hcell : h[x]? = some cc) (hcd : cc.1 = d) (hb : as.length = b) (ho : am_one as = true) (hcat : am_cat r ≤ 8) (hj : am_ms a = some mj) (hr : Rd mi (pc, lo, as.reverse ++ .ref x :: r, h, k, q) rr) : iv_C mi mj (.ref x :: as) pc lo r h k q rr := by
  have e1 : (as.reverse ++ .ref x :: r).take b = as.reverse := by
    rw [List.take_append_of_le_length (by rw [List.length_reverse]; omega), List.take_of_length_le (by rw [List.length_reverse]; omega)]
  have e2 : (as.reverse ++ .ref x :: r).drop b = .ref x :: r := by
    rw [List.drop_append_of_le_length (by rw [List.length_reverse]; omega), List.drop_of_length_le (by rw [List.length_reverse]; omega)]
    rfl
  have hx' : wk_ex wk_tls am_cmp 40 a b 2 d pc lo (as.reverse ++ .ref x :: r) h k q = some (.inr (.inr (a, .ref x :: as, (pc, lo, r, h, k, q)))) := by
    have := ab_ask2 (kk := (0, a, b, (d : Int))) (rc := 2) (y := x) (r := r) (st := as.reverse ++ .ref x :: r) (pc := pc) (lo' := lo) (k := k) (q := q) (by decide) (by show ((as.reverse ++ .ref x :: r).take b).reverse.length = b; rw [e1, List.reverse_reverse]; exact hb) e2 hcat (by show am_one ((as.reverse ++ .ref x :: r).take b).reverse = true; rw [e1, List.reverse_reverse]; exact ho) hcell (Or.inr (by show ((cc.1 : Nat) : Int) = (d : Int); rw [hcd]))
    show am_ask (0, a, b, (d : Int)) 2 pc lo (as.reverse ++ .ref x :: r) h k q = _
    rw [this]
    show some (Sum.inr (Sum.inr (a, .ref x :: ((as.reverse ++ .ref x :: r).take b).reverse, (pc, lo, r, h, k, q)))) = _
    rw [e1, List.reverse_reverse]
  exact iv_ca (rs_am (dfl := am_dfl) hmf hw hx') hj hr
theorem iw_is {r as : List Value} {mj : am_M} (hmf : wk_mck am_fty am_lk wk_tls mi mf = true) (hw : wk_at mf pc 40 a b 0 d = true) (hb : as.length = b) (ho : am_one as = true) (hcat : am_cat r ≤ 8) (hj : am_ms a = some mj) (hr : Rd mi (pc, lo, as.reverse ++ r, h, k, q) rr) : iv_C mi mj as pc lo r h k q rr := by
  have e1 : (as.reverse ++ r).take b = as.reverse := by
    rw [List.take_append_of_le_length (by rw [List.length_reverse]; omega), List.take_of_length_le (by rw [List.length_reverse]; omega)]
  have e2 : (as.reverse ++ r).drop b = r := by
    rw [List.drop_append_of_le_length (by rw [List.length_reverse]; omega), List.drop_of_length_le (by rw [List.length_reverse]; omega)]
    rfl
  have hx' : wk_ex wk_tls am_cmp 40 a b 0 d pc lo (as.reverse ++ r) h k q = some (.inr (.inr (a, as, (pc, lo, r, h, k, q)))) := by
    show am_ask (0, a, b, (d : Int)) 0 pc lo (as.reverse ++ r) h k q = _
    unfold am_ask
    dsimp only
    rw [e1, e2, List.reverse_reverse, if_pos hb, if_pos ⟨hcat, ho⟩]
    rfl
  exact iv_ca (rs_am (dfl := am_dfl) hmf hw hx') hj hr
end IW
/-- a method without answer answers nothing -/
theorem rt_run {mi : am_M} (hm : am_r mi = none) : ∀ (f : Nat) (S : am_S) (r : am_R), am_run am_fty am_dfl am_cmp am_lk am_ms am_cx am_o0 f mi S = some r → ∀ v, r.1 = .inl v → v = none
  | 0, _, _, h => by cases h
  | f + 1, S, r, h => by
    unfold am_run at h
    split at h
    · cases h
    · exact rt_run hm f _ _ h
    · rename_i r' hs
      cases h
      intro v hv
      unfold am_step at hs
      split at hs
      · rename_i i n hi
        rcases am_exec_inr hs with ⟨ix, kf, rc, -, -, hask, -⟩ | ⟨-, ⟨-, x, -, hty, hY⟩ | ⟨-, a, C, -, hty, hY⟩ | ⟨-, -, -, hY⟩⟩ | ⟨ix, kf, -, -, -, -, -, ht⟩
        · obtain ⟨as, r, -, -, -, ⟨-, -, hX⟩ | ⟨-, a, c, -, -, -, hX⟩⟩ := am_ask_inv hask <;> cases hX
        · rw [hm] at hty
          rcases hty with e | ⟨e, -⟩ <;> cases e
        · rw [hm] at hty
          cases hty
        · cases hY
          exact (Sum.inl.inj hv).symm
        · obtain ⟨-, -, -, is, ic, d, ks, kc, -, -, -, -, -, -, -, -, hX⟩ := am_thr_inv ht
          cases hX
          cases hv
      · cases hs
    · split at h
      · cases h
      · split at h
        · split at h
          · exact rt_run hm f _ _ h
          · split at h
            · split at h
              · split at h
                · split at h
                  · exact rt_run hm f _ _ h
                  · cases h
                · cases h
              · cases h
            · cases h
          · cases h
        · cases h
theorem Rd_rt {mi : am_M} (hm : am_r mi = none) {S : am_S} {v : Option Value} {h : am_H} {k q : Nat} (hr : Rd mi S (.inl v, h, k, q)) : v = none := by
  obtain ⟨f, e⟩ := hr
  exact rt_run hm f S _ e v rfl
/-- a call that nobody catches for -/
theorem iv_C_ret {mi : am_M} {pc : Nat} {lo : List (Option Value)} {st : List Value} {k q : Nat} {r r1 : am_R} (hm : am_h mi = []) (hc : (∃ v h' k' q', r1 = (.inl v, h', k', q') ∧ Rd mi (pc + 3, lo, v.toList ++ st, h', k + k', q + q') r) ∨ (∃ x h' k' q' c t, r1 = (.inr x, h', k', q') ∧ h'[x]? = some c ∧ am_catch am_cx (am_h mi) pc c.1 = some t ∧ Rd mi (t, lo, [.ref x], h', k + k', q + q') r)) : ∃ v h' k' q', r1 = (.inl v, h', k', q') ∧ Rd mi (pc + 3, lo, v.toList ++ st, h', k + k', q + q') r := by
  rcases hc with hc | ⟨x, h', k', q', c, t, -, -, ht, -⟩
  · exact hc
  · rw [hm] at ht
    cases ht
