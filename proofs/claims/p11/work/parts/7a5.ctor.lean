/-! ===== the class: a machine is made ===== -/
/-- while a machine is made: the reference does not have it yet; the class neither -/
def w_G2 (mc k i : Nat) : List ab_V := bif Nat.beq k 40 && Nat.beq i 25 then [w_e mc, w_e (Nat.add mc 1)] else w_G (Nat.add mc 1) k i
def w_G3 (mc k i : Nat) : List ab_V := bif Nat.beq k 1 && Nat.beq i 5 then [w_e mc, w_e (Nat.add mc 1)] else bif Nat.beq k 6 && Nat.beq i mc then [(2, 32, 0), (3, 0, 0)] else w_G2 mc k i
theorem w_mono : ∀ mc, mc < 8 → ∀ k, k < 74 → ∀ i, i < 80 → (w_G mc k i).all (fun v => ab_any v (w_G3 mc k i)) = true := by decide +kernel
theorem j_u79 : ∀ mc, mc < 8 → ab_unit w_kd w_un w_uq (w_G2 mc) am_cmp wk_tls am_cx wk_ms (fun _ _ => []) (fun _ _ => [[]]) 79 wc_160 0 0 [] 0x20000 wt_161 = true := by decide +kernel
def j_C79 (j : Nat) (_ : List ab_V) : List ab_C := bif Nat.beq j 79 then [wc_160] else []
theorem j_u80 : ∀ mc, mc < 8 → ab_unit w_kd w_un w_uq (w_G2 mc) am_cmp wk_tls am_cx wk_ms j_C79 (fun _ _ => [[]]) 80 wc_161 0 0 [] 0x800000 wt_162 = true := by decide +kernel
abbrev j_Vd (mc : Nat) (τ u : Nat → Nat) (tv : Nat) := ab_Vd am_fty am_dfl am_cmp am_lk am_ms am_cx w_kd w_un w_uq (w_G2 mc) τ u tv (fun _ => True) (fun _ => 0) (fun _ => 0)
theorem j_pm {τ : Nat → Nat} : ab_pm w_kd τ (fun _ => True) (fun _ => 0) (fun _ => 0) 0 := fun _ _ _ => ⟨fun _ => trivial, rfl, rfl⟩
theorem j_V79 {mc : Nat} {τ u : Nat → Nat} {tv : Nat} (hmc : mc < 8) (htv : 2147483648 ≤ tv ∧ tv ≤ 2147523647) (hU : ab_U w_uq τ u) : j_Vd mc τ u tv 79 wc_160 :=
  ab_unit_ok (nF := wk_m79.2.2.2.1) wk_cmp_ok htv hU j_pm wk_ms_ok (fun _ _ _ _ h => by cases h) (fun _ _ _ _ _ _ _ _ => ⟨[], List.mem_singleton_self _, fun _ h => by cases h⟩) (j_u79 mc hmc) (fun mf h => by cases h; exact Nat.le_refl _)
theorem j_V80 {mc : Nat} {τ u : Nat → Nat} {tv : Nat} (hmc : mc < 8) (htv : 2147483648 ≤ tv ∧ tv ≤ 2147523647) (hU : ab_U w_uq τ u) : j_Vd mc τ u tv 80 wc_161 :=
  ab_unit_ok (nF := wk_m80.2.2.2.1) wk_cmp_ok htv hU j_pm wk_ms_ok (fun j as C _ h _ _ => by
    unfold j_C79 at h
    cases e : Nat.beq j 79 with
    | true =>
      rw [e, cond_true] at h
      have := List.mem_singleton.mp h
      subst this
      have := ab_beq e
      subst this
      exact j_V79 hmc htv hU
    | false =>
      rw [e] at h
      cases h) (fun _ _ _ _ _ _ _ _ => ⟨[], List.mem_singleton_self _, fun _ h => by cases h⟩) (j_u80 mc hmc) (fun mf h => by cases h; exact Nat.le_refl _)
/-! cells behind all others -/
theorem rs_raw {mi : am_M} {S S' : am_S} {Q : am_R → Prop} (hs : am_step am_fty am_dfl am_cmp am_lk am_o0 mi S = some (.inl S')) (hn : cl_Rn mi S' Q) : cl_Rn mi S Q := by
  obtain ⟨f, r, hr, hQ⟩ := hn
  exact ⟨f + 1, r, ab_run1 hs hr, hQ⟩
theorem n_at {h l : am_H} {j : Nat} : (h ++ l)[h.length + j]? = l[j]? := by
  rw [List.getElem?_append_right (Nat.le_add_right _ _), Nat.add_sub_cancel_left]
theorem n_set {h l : am_H} {j : Nat} {c : am_C} : (h ++ l).set (h.length + j) c = h ++ l.set j c := by
  rw [List.set_append_right _ _ (Nat.le_add_right _ _), Nat.add_sub_cancel_left]
theorem n_put {mi : am_M} {mf : fm_M} {pc a b c d k q j : Nat} {lo : List (Option Value)} {r : List Value} {h l l' : am_H} {vs : List Value} {v : Value} {Q : am_R → Prop} (hmf : wk_mck am_fty am_lk wk_tls mi mf = true) (hw : wk_at mf pc 26 a b c d = true) (hl : l[j]? = some (a, vs)) (hb : b < vs.length) (hf : wk_fit c v = true) (hl' : l.set j (a, vs.set b v) = l') (hn : cl_Rn mi (pc + 3, lo, r, h ++ l', k, q) Q) : cl_Rn mi (pc, lo, v :: .ref (h.length + j) :: r, h ++ l, k, q) Q := by
  refine rs_st (cmp := am_cmp) hmf hw ?_ hn
  simp only [wk_ex]
  rw [ab_arr (n_at.trans hl)]
  dsimp only
  rw [if_pos ⟨hb, hf⟩, n_set, hl']
  rfl
theorem n_get {mi : am_M} {mf : fm_M} {pc a b c d k q j : Nat} {lo : List (Option Value)} {r : List Value} {h l : am_H} {vs : List Value} {v : Value} {Q : am_R → Prop} (hmf : wk_mck am_fty am_lk wk_tls mi mf = true) (hw : wk_at mf pc 25 a b c d = true) (hl : l[j]? = some (a, vs)) (hv : vs[b]? = some v) (hn : cl_Rn mi (pc + 3, lo, v :: r, h ++ l, k, q) Q) : cl_Rn mi (pc, lo, .ref (h.length + j) :: r, h ++ l, k, q) Q := by
  refine rs_st (cmp := am_cmp) hmf hw ?_ hn
  simp only [wk_ex]
  rw [ab_arr (n_at.trans hl)]
  dsimp only
  rw [hv]
  rfl
theorem n_new {mi : am_M} {pc k q n : Nat} {lo : List (Option Value)} {r : List Value} {h l l' : am_H} {x : Int32} {Q : am_R → Prop} (hi : am_ins (am_c mi) pc = some (.newarray .int, 2)) (hx : ¬ x < 0) (hxn : x.toNatClampNeg = n) (h1000 : n ≤ 1000) (hl' : l ++ [(100, List.replicate n (.int 0))] = l') {j : Nat} (hj : l.length = j) (hn : cl_Rn mi (pc + 2, lo, .ref (h.length + j) :: r, h ++ l', k + 1, q + n) Q) : cl_Rn mi (pc, lo, .int x :: r, h ++ l, k, q) Q := by
  refine rs_raw ?_ hn
  unfold am_step
  show (match am_ins (am_c mi) pc with
    | some (i, n) => am_exec am_fty am_dfl am_cmp am_lk am_o0 mi i n pc lo (.int x :: r) (h ++ l) k q
    | none => none) = _
  rw [hi]
  show am_new 2 0 (.int 0) 2 pc lo (.int x :: r) (h ++ l) k q = _
  unfold am_new
  rw [if_pos rfl]
  dsimp only
  rw [if_neg hx, hxn, if_pos h1000, List.length_append, hj, List.append_assoc, ← hl']
  rfl
/-! Arrays.fill -/
set_option maxRecDepth 100000 in
theorem n_fill {h l : am_H} {j : Nat} {vs : List Value} {z : Int32} (hl : l[j]? = some (100, vs)) (hv : vs.length = 8) {Q : am_R → Prop} (hQ : ∀ ws, ws.length = 8 → (∀ i, i < 8 → ws[i]? = some (.int z)) → Q (.inl none, h ++ l.set j (100, ws), 0, 0)) : cl_Rn am_m144 (0, [some (.ref (h.length + j)), some (.int z), none, none], [], h ++ l, 0, 0) Q := by
  have c0 : ab_b (Int32.ofNat (1 / 8)) = 2147483648 := by decide
  have c1 : ab_b (Int32.ofNat 1) = 2147483649 := by decide
  have c8 : ab_b (Int32.ofNat 8) = 2147483656 := by decide
  have hj : j < l.length := by
    by_cases e : j < l.length
    · exact e
    · rw [List.getElem?_eq_none (by omega)] at hl
      cases hl
  have key : ∀ (d i : Nat) (zi : Int32) (ws : List Value), i + d = 8 → ab_b zi = 2147483648 + i → ws.length = 8 → (∀ i', i' < i → ws[i']? = some (.int z)) → cl_Rn am_m144 (5, [some (.ref (h.length + j)), some (.int z), some (.int zi), some (.int (Int32.ofNat 8))], [], h ++ l.set j (100, ws), 0, 0) Q := by
    intro d
    induction d with
    | zero =>
      intro i zi ws hd hzi hlen hdone
      refine rs_st (cmp := am_cmp) wk_q144 (show wk_at wk_m144 5 2 2 1 0 0 = true by decide +kernel) rfl ?_
      refine rs_st (cmp := am_cmp) wk_q144 (show wk_at wk_m144 6 2 3 1 0 0 = true by decide +kernel) rfl ?_
      refine rs_ict wk_q144 (show wk_at wk_m144 7 23 3 20 0 0 = true by decide +kernel) (by show decide (Int32.ofNat 8 ≤ zi) = true; exact decide_eq_true (ab_b_lei.mpr (by omega))) ?_
      exact rs_en (cmp := am_cmp) wk_q144 (show wk_at wk_m144 20 46 0 0 0 0 = true by decide +kernel) rfl (hQ ws hlen (fun i' hi => hdone i' (by omega)))
    | succ d ih =>
      intro i zi ws hd hzi hlen hdone
      have hinc := ab_b_add (x := zi) (y := Int32.ofNat 1) (by omega) (by omega)
      have hix : ab_b zi - 2147483648 = i := by rw [hzi]; exact Nat.add_sub_cancel_left ..
      refine rs_st (cmp := am_cmp) wk_q144 (show wk_at wk_m144 5 2 2 1 0 0 = true by decide +kernel) rfl ?_
      refine rs_st (cmp := am_cmp) wk_q144 (show wk_at wk_m144 6 2 3 1 0 0 = true by decide +kernel) rfl ?_
      refine rs_icf wk_q144 (show wk_at wk_m144 7 23 3 20 0 0 = true by decide +kernel) (by show decide (Int32.ofNat 8 ≤ zi) = false; exact decide_eq_false (fun hle => by have := ab_b_lei.mp hle; omega)) ?_
      refine rs_st (cmp := am_cmp) wk_q144 (show wk_at wk_m144 10 3 0 1 0 0 = true by decide +kernel) rfl ?_
      refine rs_st (cmp := am_cmp) wk_q144 (show wk_at wk_m144 11 2 2 1 0 0 = true by decide +kernel) rfl ?_
      refine rs_st (cmp := am_cmp) wk_q144 (show wk_at wk_m144 12 2 1 1 0 0 = true by decide +kernel) rfl ?_
      obtain ⟨n1, n2⟩ := ab_ix (z := zi) (by omega)
      have hat : (h ++ l.set j (100, ws))[h.length + j]? = some (100, ws) := by rw [n_at, List.getElem?_set, if_pos rfl, if_pos hj]
      have hwrt : am_wr (h ++ l.set j (100, ws)) (h.length + j) 100 ws zi (.int z) = some (h ++ l.set j (100, ws.set i (.int z))) := by
        unfold am_wr
        rw [if_neg n1, n2, hix, if_pos (by omega), n_set, List.set_set]
      refine rs_st (S' := (14, [some (.ref (h.length + j)), some (.int z), some (.int zi), some (.int (Int32.ofNat 8))], [], h ++ l.set j (100, ws.set i (.int z)), 0, 0)) (cmp := am_cmp) wk_q144 (show wk_at wk_m144 13 31 0 0 0 0 = true by decide +kernel) ?_ ?_
      · simp only [wk_ex]
        rw [ab_arr hat]
        dsimp only
        rw [hwrt]
        rfl
      refine rs_st (cmp := am_cmp) wk_q144 (show wk_at wk_m144 14 6 2 1 0 0 = true by decide +kernel) rfl ?_
      refine rs_st (cmp := am_cmp) wk_q144 (show wk_at wk_m144 17 21 5 0 0 0 = true by decide +kernel) rfl ?_
      refine ih (i + 1) (zi + Int32.ofNat 1) (ws.set i (.int z)) (by omega) (by omega) (by rw [List.length_set]; exact hlen) (fun i' hi' => ?_)
      rw [List.getElem?_set]
      by_cases e : i = i'
      · rw [if_pos e, if_pos (by omega)]
      · rw [if_neg e]; exact hdone i' (by omega)
  refine rs_st (cmp := am_cmp) wk_q144 (show wk_at wk_m144 0 1 1 1 0 0 = true by decide +kernel) rfl ?_
  refine rs_st (cmp := am_cmp) wk_q144 (show wk_at wk_m144 1 4 2 1 0 0 = true by decide +kernel) rfl ?_
  refine rs_st (cmp := am_cmp) wk_q144 (show wk_at wk_m144 2 3 0 1 0 0 = true by decide +kernel) rfl ?_
  have hat : (h ++ l)[h.length + j]? = some (100, vs) := n_at.trans hl
  refine rs_st (S' := (4, [some (.ref (h.length + j)), some (.int z), some (.int (Int32.ofNat (1 / 8))), none], [.int (Int32.ofNat 8)], h ++ l, 0, 0)) (cmp := am_cmp) wk_q144 (show wk_at wk_m144 3 35 0 0 0 0 = true by decide +kernel) ?_ ?_
  · simp only [wk_ex]
    rw [hat]
    dsimp only
    rw [if_pos (Or.inl rfl), hv]
    rfl
  refine rs_st (cmp := am_cmp) wk_q144 (show wk_at wk_m144 4 4 3 1 0 0 = true by decide +kernel) rfl ?_
  have hset : l.set j (100, vs) = l := by
    apply List.ext_getElem?
    intro i
    rw [List.getElem?_set]
    by_cases e : j = i
    · rw [if_pos e, if_pos hj, ← e, hl]
    · rw [if_neg e]
  have := key 8 0 (Int32.ofNat (1 / 8)) vs (by omega) c0 hv (fun i' hi' => absurd hi' (Nat.not_lt_zero _))
  rw [hset] at this
  exact this
set_option maxRecDepth 100000 in
/-- a new machine's cells -/
def n_cells (L : Nat) (zn zt za zl : Int32) (ws : List Value) : am_H := [(5, [.int zn, .int zt, .int za, .int zl, .int 1, .ref (L + 1), .ref (L + 2), .int 0, .ref (L + 3), .ref (L + 4), .ref (L + 5), .ref (L + 6), .int (-8)]), (100, List.replicate 4 (.int 0)), (100, List.replicate 4 (.int 0)), (100, List.replicate 8 (.int 0)), (100, ws), (100, List.replicate 8 (.int 0)), (100, List.replicate 8 (.int 0))]
set_option maxRecDepth 100000 in
theorem n_ctor {h : am_H} {zn zt za zl : Int32} {Q : am_R → Prop} (hQ : ∀ ws, ws.length = 8 → (∀ i, i < 8 → ws[i]? = some (.int (-1))) → Q (.inl none, h ++ n_cells h.length zn zt za zl ws, 6, 40)) : cl_Rn am_m49 (0, [some (.ref (h.length + 0)), some (.int zn), some (.int zt), some (.int za), some (.int zl)], [], h ++ [(5, [.int 0, .int 0, .int 0, .int 0, .int 0, .null, .null, .int 0, .null, .null, .null, .null, .int 0])], 0, 0) Q := by
  refine rs_st (cmp := am_cmp) wk_q49 (show wk_at wk_m49 0 3 0 1 0 0 = true by decide +kernel) rfl ?_
  refine rs_raw (S' := (4, [some (.ref (h.length + 0)), some (.int zn), some (.int zt), some (.int za), some (.int zl)], [], h ++ [(5, [.int 0, .int 0, .int 0, .int 0, .int 0, .null, .null, .int 0, .null, .null, .null, .null, .int 0])], 0, 0)) rfl ?_
  refine rs_st (cmp := am_cmp) wk_q49 (show wk_at wk_m49 4 3 0 1 0 0 = true by decide +kernel) rfl ?_
  refine rs_st (cmp := am_cmp) wk_q49 (show wk_at wk_m49 5 1 9 1 0 0 = true by decide +kernel) rfl ?_
  refine n_put (j := 0) (l' := [(5, [.int 0, .int 0, .int 0, .int 0, .int 1, .null, .null, .int 0, .null, .null, .null, .null, .int 0])]) wk_q49 (show wk_at wk_m49 6 26 5 4 0 0 = true by decide +kernel) rfl (Nat.le_of_ble_eq_true rfl) rfl rfl ?_
  refine rs_st (cmp := am_cmp) wk_q49 (show wk_at wk_m49 9 3 0 1 0 0 = true by decide +kernel) rfl ?_
  refine rs_st (cmp := am_cmp) wk_q49 (show wk_at wk_m49 10 1 33 1 0 0 = true by decide +kernel) rfl ?_
  refine n_new (n := 4) (l' := [(5, [.int 0, .int 0, .int 0, .int 0, .int 1, .null, .null, .int 0, .null, .null, .null, .null, .int 0]), (100, List.replicate 4 (.int 0))]) (j := 1) rfl (by decide) (by decide) (by decide) rfl rfl ?_
  refine n_put (j := 0) (l' := [(5, [.int 0, .int 0, .int 0, .int 0, .int 1, .ref (h.length + 1), .null, .int 0, .null, .null, .null, .null, .int 0]), (100, List.replicate 4 (.int 0))]) wk_q49 (show wk_at wk_m49 13 26 5 5 3 0 = true by decide +kernel) rfl (Nat.le_of_ble_eq_true rfl) rfl rfl ?_
  refine rs_st (cmp := am_cmp) wk_q49 (show wk_at wk_m49 16 3 0 1 0 0 = true by decide +kernel) rfl ?_
  refine rs_st (cmp := am_cmp) wk_q49 (show wk_at wk_m49 17 1 33 1 0 0 = true by decide +kernel) rfl ?_
  refine n_new (n := 4) (l' := [(5, [.int 0, .int 0, .int 0, .int 0, .int 1, .ref (h.length + 1), .null, .int 0, .null, .null, .null, .null, .int 0]), (100, List.replicate 4 (.int 0)), (100, List.replicate 4 (.int 0))]) (j := 2) rfl (by decide) (by decide) (by decide) rfl rfl ?_
  refine n_put (j := 0) (l' := [(5, [.int 0, .int 0, .int 0, .int 0, .int 1, .ref (h.length + 1), .ref (h.length + 2), .int 0, .null, .null, .null, .null, .int 0]), (100, List.replicate 4 (.int 0)), (100, List.replicate 4 (.int 0))]) wk_q49 (show wk_at wk_m49 20 26 5 6 3 0 = true by decide +kernel) rfl (Nat.le_of_ble_eq_true rfl) rfl rfl ?_
  refine rs_st (cmp := am_cmp) wk_q49 (show wk_at wk_m49 23 3 0 1 0 0 = true by decide +kernel) rfl ?_
  refine rs_st (cmp := am_cmp) wk_q49 (show wk_at wk_m49 24 1 65 2 0 0 = true by decide +kernel) rfl ?_
  refine n_new (n := 8) (l' := [(5, [.int 0, .int 0, .int 0, .int 0, .int 1, .ref (h.length + 1), .ref (h.length + 2), .int 0, .null, .null, .null, .null, .int 0]), (100, List.replicate 4 (.int 0)), (100, List.replicate 4 (.int 0)), (100, List.replicate 8 (.int 0))]) (j := 3) rfl (by decide) (by decide) (by decide) rfl rfl ?_
  refine n_put (j := 0) (l' := [(5, [.int 0, .int 0, .int 0, .int 0, .int 1, .ref (h.length + 1), .ref (h.length + 2), .int 0, .ref (h.length + 3), .null, .null, .null, .int 0]), (100, List.replicate 4 (.int 0)), (100, List.replicate 4 (.int 0)), (100, List.replicate 8 (.int 0))]) wk_q49 (show wk_at wk_m49 28 26 5 8 3 0 = true by decide +kernel) rfl (Nat.le_of_ble_eq_true rfl) rfl rfl ?_
  refine rs_st (cmp := am_cmp) wk_q49 (show wk_at wk_m49 31 3 0 1 0 0 = true by decide +kernel) rfl ?_
  refine rs_st (cmp := am_cmp) wk_q49 (show wk_at wk_m49 32 1 65 2 0 0 = true by decide +kernel) rfl ?_
  refine n_new (n := 8) (l' := [(5, [.int 0, .int 0, .int 0, .int 0, .int 1, .ref (h.length + 1), .ref (h.length + 2), .int 0, .ref (h.length + 3), .null, .null, .null, .int 0]), (100, List.replicate 4 (.int 0)), (100, List.replicate 4 (.int 0)), (100, List.replicate 8 (.int 0)), (100, List.replicate 8 (.int 0))]) (j := 4) rfl (by decide) (by decide) (by decide) rfl rfl ?_
  refine n_put (j := 0) (l' := [(5, [.int 0, .int 0, .int 0, .int 0, .int 1, .ref (h.length + 1), .ref (h.length + 2), .int 0, .ref (h.length + 3), .ref (h.length + 4), .null, .null, .int 0]), (100, List.replicate 4 (.int 0)), (100, List.replicate 4 (.int 0)), (100, List.replicate 8 (.int 0)), (100, List.replicate 8 (.int 0))]) wk_q49 (show wk_at wk_m49 36 26 5 9 3 0 = true by decide +kernel) rfl (Nat.le_of_ble_eq_true rfl) rfl rfl ?_
  refine rs_st (cmp := am_cmp) wk_q49 (show wk_at wk_m49 39 3 0 1 0 0 = true by decide +kernel) rfl ?_
  refine rs_st (cmp := am_cmp) wk_q49 (show wk_at wk_m49 40 1 65 2 0 0 = true by decide +kernel) rfl ?_
  refine n_new (n := 8) (l' := [(5, [.int 0, .int 0, .int 0, .int 0, .int 1, .ref (h.length + 1), .ref (h.length + 2), .int 0, .ref (h.length + 3), .ref (h.length + 4), .null, .null, .int 0]), (100, List.replicate 4 (.int 0)), (100, List.replicate 4 (.int 0)), (100, List.replicate 8 (.int 0)), (100, List.replicate 8 (.int 0)), (100, List.replicate 8 (.int 0))]) (j := 5) rfl (by decide) (by decide) (by decide) rfl rfl ?_
  refine n_put (j := 0) (l' := [(5, [.int 0, .int 0, .int 0, .int 0, .int 1, .ref (h.length + 1), .ref (h.length + 2), .int 0, .ref (h.length + 3), .ref (h.length + 4), .ref (h.length + 5), .null, .int 0]), (100, List.replicate 4 (.int 0)), (100, List.replicate 4 (.int 0)), (100, List.replicate 8 (.int 0)), (100, List.replicate 8 (.int 0)), (100, List.replicate 8 (.int 0))]) wk_q49 (show wk_at wk_m49 44 26 5 10 3 0 = true by decide +kernel) rfl (Nat.le_of_ble_eq_true rfl) rfl rfl ?_
  refine rs_st (cmp := am_cmp) wk_q49 (show wk_at wk_m49 47 3 0 1 0 0 = true by decide +kernel) rfl ?_
  refine rs_st (cmp := am_cmp) wk_q49 (show wk_at wk_m49 48 1 65 2 0 0 = true by decide +kernel) rfl ?_
  refine n_new (n := 8) (l' := [(5, [.int 0, .int 0, .int 0, .int 0, .int 1, .ref (h.length + 1), .ref (h.length + 2), .int 0, .ref (h.length + 3), .ref (h.length + 4), .ref (h.length + 5), .null, .int 0]), (100, List.replicate 4 (.int 0)), (100, List.replicate 4 (.int 0)), (100, List.replicate 8 (.int 0)), (100, List.replicate 8 (.int 0)), (100, List.replicate 8 (.int 0)), (100, List.replicate 8 (.int 0))]) (j := 6) rfl (by decide) (by decide) (by decide) rfl rfl ?_
  refine n_put (j := 0) (l' := [(5, [.int 0, .int 0, .int 0, .int 0, .int 1, .ref (h.length + 1), .ref (h.length + 2), .int 0, .ref (h.length + 3), .ref (h.length + 4), .ref (h.length + 5), .ref (h.length + 6), .int 0]), (100, List.replicate 4 (.int 0)), (100, List.replicate 4 (.int 0)), (100, List.replicate 8 (.int 0)), (100, List.replicate 8 (.int 0)), (100, List.replicate 8 (.int 0)), (100, List.replicate 8 (.int 0))]) wk_q49 (show wk_at wk_m49 52 26 5 11 3 0 = true by decide +kernel) rfl (Nat.le_of_ble_eq_true rfl) rfl rfl ?_
  refine rs_st (cmp := am_cmp) wk_q49 (show wk_at wk_m49 55 3 0 1 0 0 = true by decide +kernel) rfl ?_
  refine rs_st (cmp := am_cmp) wk_q49 (show wk_at wk_m49 56 1 34359738305 2 0 0 = true by decide +kernel) rfl ?_
  refine n_put (j := 0) (l' := [(5, [.int 0, .int 0, .int 0, .int 0, .int 1, .ref (h.length + 1), .ref (h.length + 2), .int 0, .ref (h.length + 3), .ref (h.length + 4), .ref (h.length + 5), .ref (h.length + 6), .int (-8)]), (100, List.replicate 4 (.int 0)), (100, List.replicate 4 (.int 0)), (100, List.replicate 8 (.int 0)), (100, List.replicate 8 (.int 0)), (100, List.replicate 8 (.int 0)), (100, List.replicate 8 (.int 0))]) wk_q49 (show wk_at wk_m49 58 26 5 12 0 0 = true by decide +kernel) rfl (Nat.le_of_ble_eq_true rfl) rfl rfl ?_
  refine rs_st (cmp := am_cmp) wk_q49 (show wk_at wk_m49 61 3 0 1 0 0 = true by decide +kernel) rfl ?_
  refine rs_st (cmp := am_cmp) wk_q49 (show wk_at wk_m49 62 2 1 1 0 0 = true by decide +kernel) rfl ?_
  refine n_put (j := 0) (l' := [(5, [.int zn, .int 0, .int 0, .int 0, .int 1, .ref (h.length + 1), .ref (h.length + 2), .int 0, .ref (h.length + 3), .ref (h.length + 4), .ref (h.length + 5), .ref (h.length + 6), .int (-8)]), (100, List.replicate 4 (.int 0)), (100, List.replicate 4 (.int 0)), (100, List.replicate 8 (.int 0)), (100, List.replicate 8 (.int 0)), (100, List.replicate 8 (.int 0)), (100, List.replicate 8 (.int 0))]) wk_q49 (show wk_at wk_m49 63 26 5 0 0 0 = true by decide +kernel) rfl (Nat.le_of_ble_eq_true rfl) rfl rfl ?_
  refine rs_st (cmp := am_cmp) wk_q49 (show wk_at wk_m49 66 3 0 1 0 0 = true by decide +kernel) rfl ?_
  refine rs_st (cmp := am_cmp) wk_q49 (show wk_at wk_m49 67 2 2 1 0 0 = true by decide +kernel) rfl ?_
  refine n_put (j := 0) (l' := [(5, [.int zn, .int zt, .int 0, .int 0, .int 1, .ref (h.length + 1), .ref (h.length + 2), .int 0, .ref (h.length + 3), .ref (h.length + 4), .ref (h.length + 5), .ref (h.length + 6), .int (-8)]), (100, List.replicate 4 (.int 0)), (100, List.replicate 4 (.int 0)), (100, List.replicate 8 (.int 0)), (100, List.replicate 8 (.int 0)), (100, List.replicate 8 (.int 0)), (100, List.replicate 8 (.int 0))]) wk_q49 (show wk_at wk_m49 68 26 5 1 0 0 = true by decide +kernel) rfl (Nat.le_of_ble_eq_true rfl) rfl rfl ?_
  refine rs_st (cmp := am_cmp) wk_q49 (show wk_at wk_m49 71 3 0 1 0 0 = true by decide +kernel) rfl ?_
  refine rs_st (cmp := am_cmp) wk_q49 (show wk_at wk_m49 72 2 3 1 0 0 = true by decide +kernel) rfl ?_
  refine n_put (j := 0) (l' := [(5, [.int zn, .int zt, .int za, .int 0, .int 1, .ref (h.length + 1), .ref (h.length + 2), .int 0, .ref (h.length + 3), .ref (h.length + 4), .ref (h.length + 5), .ref (h.length + 6), .int (-8)]), (100, List.replicate 4 (.int 0)), (100, List.replicate 4 (.int 0)), (100, List.replicate 8 (.int 0)), (100, List.replicate 8 (.int 0)), (100, List.replicate 8 (.int 0)), (100, List.replicate 8 (.int 0))]) wk_q49 (show wk_at wk_m49 73 26 5 2 0 0 = true by decide +kernel) rfl (Nat.le_of_ble_eq_true rfl) rfl rfl ?_
  refine rs_st (cmp := am_cmp) wk_q49 (show wk_at wk_m49 76 3 0 1 0 0 = true by decide +kernel) rfl ?_
  refine rs_st (cmp := am_cmp) wk_q49 (show wk_at wk_m49 77 2 4 2 0 0 = true by decide +kernel) rfl ?_
  refine n_put (j := 0) (l' := [(5, [.int zn, .int zt, .int za, .int zl, .int 1, .ref (h.length + 1), .ref (h.length + 2), .int 0, .ref (h.length + 3), .ref (h.length + 4), .ref (h.length + 5), .ref (h.length + 6), .int (-8)]), (100, List.replicate 4 (.int 0)), (100, List.replicate 4 (.int 0)), (100, List.replicate 8 (.int 0)), (100, List.replicate 8 (.int 0)), (100, List.replicate 8 (.int 0)), (100, List.replicate 8 (.int 0))]) wk_q49 (show wk_at wk_m49 79 26 5 3 0 0 = true by decide +kernel) rfl (Nat.le_of_ble_eq_true rfl) rfl rfl ?_
  refine rs_st (cmp := am_cmp) wk_q49 (show wk_at wk_m49 82 3 0 1 0 0 = true by decide +kernel) rfl ?_
  refine n_get (j := 0) wk_q49 (show wk_at wk_m49 83 25 5 9 0 0 = true by decide +kernel) rfl rfl ?_
  refine rs_st (cmp := am_cmp) wk_q49 (show wk_at wk_m49 86 1 34359738361 1 0 0 = true by decide +kernel) rfl ?_
  refine rs_is (as := [.ref (h.length + 4), .int (-1)]) (r := []) wk_q49 (show wk_at wk_m49 87 40 144 2 0 0 = true by decide +kernel) rfl rfl (Nat.le_of_ble_eq_true rfl) (mj := am_m144) rfl ⟨by decide, by decide, Nat.le_of_ble_eq_true rfl⟩ ?_
  refine n_fill (vs := List.replicate 8 (.int 0)) rfl rfl (fun ws w1 w2 => ⟨none, _, 0, 0, rfl, ?_⟩)
  exact rs_en (cmp := am_cmp) wk_q49 (show wk_at wk_m49 90 46 0 0 0 0 = true by decide +kernel) rfl (hQ ws w1 w2)
