/-! ===== the law's own steps ===== -/
abbrev ll_x (l : Nat) (kn : List (Nat × Int32)) : am_O := (some l, kn, [], [])
def ll_R (xs : am_O) (S : am_S) (Q : am_R → Prop) : Prop := ∃ f r, am_run am_fty am_dfl am_cmp am_lk am_ms am_cx xs f am_law S = some r ∧ Q r
theorem ll_ex {xs : am_O} {pc n k q : Nat} {i : Instr} {lo : List (Option Value)} {st : List Value} {h : am_H} {X : am_X} (hi : am_ins (am_c am_law) pc = some (i, n)) (he : am_exec am_fty am_dfl am_cmp am_lk xs am_law i n pc lo st h k q = some X) : am_step am_fty am_dfl am_cmp am_lk xs am_law (pc, lo, st, h, k, q) = some X := by
  unfold am_step
  show (match am_ins (am_c am_law) pc with
    | some (i, n) => am_exec am_fty am_dfl am_cmp am_lk xs am_law i n pc lo st h k q
    | none => none) = _
  rw [hi]
  exact he
theorem ll_st {xs : am_O} {pc n k q : Nat} {i : Instr} {lo : List (Option Value)} {st : List Value} {h : am_H} {S' : am_S} {Q : am_R → Prop} (hi : am_ins (am_c am_law) pc = some (i, n)) (he : am_exec am_fty am_dfl am_cmp am_lk xs am_law i n pc lo st h k q = some (.inl S')) (hn : ll_R xs S' Q) : ll_R xs (pc, lo, st, h, k, q) Q := by
  obtain ⟨f, r, hr, hQ⟩ := hn
  exact ⟨f + 1, r, ab_run1 (ll_ex hi he) hr, hQ⟩
theorem ll_en {xs : am_O} {pc n k q : Nat} {i : Instr} {lo : List (Option Value)} {st : List Value} {h : am_H} {r : am_R} {Q : am_R → Prop} (hi : am_ins (am_c am_law) pc = some (i, n)) (he : am_exec am_fty am_dfl am_cmp am_lk xs am_law i n pc lo st h k q = some (.inr (.inl r))) (hn : Q r) : ll_R xs (pc, lo, st, h, k, q) Q := ⟨1, r, ab_rune (ll_ex hi he), hn⟩
theorem ll_ca {xs : am_O} {pc n j pc' k q k1 q1 : Nat} {i : Instr} {lo lo' : List (Option Value)} {st st' as : List Value} {h h' : am_H} {mj : am_M} {Q : am_R → Prop} (hi : am_ins (am_c am_law) pc = some (i, n)) (he : am_exec am_fty am_dfl am_cmp am_lk xs am_law i n pc lo st h k q = some (.inr (.inr (j, as, (pc', lo', st', h', k1, q1))))) (hj : am_ms j = some mj) (hroom : am_f mj + 1 ≤ am_f am_law ∧ 8 + (am_L mj + 11) + am_w mj ≤ am_w am_law ∧ as.length ≤ am_L mj) (hc : cl_Rn mj (0, as.map some ++ List.replicate (am_L mj - as.length) none, [], h', 0, 0) (fun r => ∃ v h2 k2 q2, r = (.inl v, h2, k2, q2) ∧ ll_R xs (pc' + 3, lo', v.toList ++ st', h2, k1 + k2, q1 + q2) Q)) : ll_R xs (pc, lo, st, h, k, q) Q := by
  obtain ⟨f1, r1, hr1, v, h2, k2, q2, rfl, f2, r2, hr2, hQ⟩ := hc
  refine ⟨f1 + f2 + 1, r2, ?_, hQ⟩
  have e0 := ll_ex hi he
  have e1 := am_mono (am_run_om f1 (none, xs.2) mj _ _ hr1) (Nat.le_add_right f1 f2)
  have e2 := am_mono hr2 (Nat.le_add_left f2 f1)
  unfold am_run
  rw [e0]
  dsimp only
  rw [hj]
  dsimp only
  rw [if_pos hroom, e1]
  exact e2
theorem ll_iv {xs : am_O} {pc ix j b k q x : Nat} {d : Int} {lo : List (Option Value)} {r as : List Value} {h : am_H} {mj : am_M} {cc : am_C} {Q : am_R → Prop} (hi : am_ins (am_c am_law) pc = some (.invokevirtual ix, 3)) (hl : am_lk 10 ix = some (20, j, b, d)) (hcell : h[x]? = some cc) (hcd : (cc.1 : Int) = d) (hb : as.length = b) (ho : am_one as = true) (hr : am_cat r ≤ 8) (hj : am_ms j = some mj) (hroom : am_f mj + 1 ≤ am_f am_law ∧ 8 + (am_L mj + 11) + am_w mj ≤ am_w am_law ∧ as.length + 1 ≤ am_L mj) (hc : cl_Rn mj (0, (.ref x :: as).map some ++ List.replicate (am_L mj - (as.length + 1)) none, [], h, 0, 0) (fun r' => ∃ v h' k' q', r' = (.inl v, h', k', q') ∧ ll_R xs (pc + 3, lo, v.toList ++ r, h', k + k', q + q') Q)) : ll_R xs (pc, lo, as.reverse ++ .ref x :: r, h, k, q) Q := by
  have e1 : (as.reverse ++ .ref x :: r).take b = as.reverse := by
    rw [List.take_append_of_le_length (by rw [List.length_reverse]; omega), List.take_of_length_le (by rw [List.length_reverse]; omega)]
  have e2 : (as.reverse ++ .ref x :: r).drop b = .ref x :: r := by
    rw [List.drop_append_of_le_length (by rw [List.length_reverse]; omega), List.drop_of_length_le (by rw [List.length_reverse]; omega)]
    rfl
  have hx' : am_ask (20, j, b, d) 2 pc lo (as.reverse ++ .ref x :: r) h k q = some (.inr (.inr (j, .ref x :: as, (pc, lo, r, h, k, q)))) := by
    have := ab_ask2 (kk := (20, j, b, d)) (rc := 2) (y := x) (r := r) (st := as.reverse ++ .ref x :: r) (pc := pc) (lo' := lo) (k := k) (q := q) (by decide) (by show ((as.reverse ++ .ref x :: r).take b).reverse.length = b; rw [e1, List.reverse_reverse]; exact hb) e2 hr (by show am_one ((as.reverse ++ .ref x :: r).take b).reverse = true; rw [e1, List.reverse_reverse]; exact ho) hcell (Or.inr hcd)
    rw [this]
    show some (Sum.inr (Sum.inr (j, .ref x :: ((as.reverse ++ .ref x :: r).take b).reverse, (pc, lo, r, h, k, q)))) = _
    rw [e1, List.reverse_reverse]
  refine ll_ca (as := .ref x :: as) hi ?_ hj hroom hc
  have hl : am_lk (am_o am_law) ix = some (20, j, b, d) := hl
  show (if (3 : Nat) = 3 then (match am_lk (am_o am_law) ix with
    | some kk => if kk.1 = 20 ∨ kk.1 = 21 then am_ask kk 2 pc lo (as.reverse ++ .ref x :: r) h k q else none
    | none => none) else none) = _
  rw [if_pos rfl, hl]
  show (if (20 : Nat) = 20 ∨ (20 : Nat) = 21 then am_ask (20, j, b, d) 2 pc lo (as.reverse ++ .ref x :: r) h k q else none) = _
  rw [if_pos (Or.inl rfl)]
  exact hx'
theorem ll_arg {l : Nat} {kn : List (Nat × Int32)} {p k q : Nat} {c : Int} {lo : List (Option Value)} {st : List Value} {h : am_H} {zi x : Int32} {Q : am_R → Prop} (h0 : lo[0]? = some (some (.retAddr 0))) (h4 : lo[4]? = some (some (.int zi))) (i0 : am_ins (am_c am_law) p = some (.aload_n 0, 1)) (i1 : am_ins (am_c am_law) (p + 1) = some (.iload 4, 2)) (i3 : am_ins (am_c am_law) (p + 3) = some (.iconst c, 1)) (i4 : am_ins (am_c am_law) (p + 4) = some (.iadd, 1)) (i5 : am_ins (am_c am_law) (p + 5) = some (.iaload, 1)) (hz : ¬ (zi + Int32.ofInt c < 0 ∨ l ≤ (zi + Int32.ofInt c).toNatClampNeg)) (hk : am_kn kn (zi + Int32.ofInt c).toNatClampNeg = some x) (hn : ll_R (ll_x l kn) (p + 6, lo, .int x :: st, h, k, q) Q) : ll_R (ll_x l kn) (p, lo, st, h, k, q) Q := by
  refine ll_st i0 (S' := (p + 1, lo, .retAddr 0 :: st, h, k, q)) ?_ ?_
  · show am_lod 1 0 1 true p lo st h k q = _
    unfold am_lod
    rw [if_pos rfl, h0]
    rfl
  refine ll_st i1 (S' := (p + 3, lo, .int zi :: .retAddr 0 :: st, h, k, q)) ?_ ?_
  · show am_lod 2 4 2 false (p + 1) lo (.retAddr 0 :: st) h k q = _
    unfold am_lod
    rw [if_pos rfl, h4]
    rfl
  refine ll_st i3 (S' := (p + 4, lo, .int (Int32.ofInt c) :: .int zi :: .retAddr 0 :: st, h, k, q)) rfl ?_
  refine ll_st i4 (S' := (p + 5, lo, .int (zi + Int32.ofInt c) :: .retAddr 0 :: st, h, k, q)) rfl ?_
  refine ll_st i5 (S' := (p + 6, lo, .int x :: st, h, k, q)) ?_ hn
  show (if (1 : Nat) = 1 then (if zi + Int32.ofInt c < 0 ∨ l ≤ (zi + Int32.ofInt c).toNatClampNeg then none else (match am_kn kn (zi + Int32.ofInt c).toNatClampNeg with
    | some x => am_go (p + 5 + 1, lo, .int x :: st, h, k, q)
    | none => am_go (p + 5 + 1, lo, .retAddr ((zi + Int32.ofInt c).toNatClampNeg + 1) :: st, h, k, q))) else none) = _
  rw [if_pos rfl, if_neg hz, hk]
  rfl
theorem ll_bool {xs : am_O} {p k q : Nat} {lo : List (Option Value)} {st : List Value} {h : am_H} {x : Int32} {Q : am_R → Prop} (i0 : am_ins (am_c am_law) p = some (.ifCond .eq 7, 3)) (i3 : am_ins (am_c am_law) (p + 3) = some (.iconst 1, 1)) (i4 : am_ins (am_c am_law) (p + 4) = some (.goto 4, 3)) (i7 : am_ins (am_c am_law) (p + 7) = some (.iconst 0, 1)) (hn : ∀ b : Int32, (b = 0 ∨ b = 1) → (b = if x = 0 then 0 else 1) → ll_R xs (p + 8, lo, .int b :: st, h, k, q) Q) : ll_R xs (p, lo, .int x :: st, h, k, q) Q := by
  by_cases hx : x = 0
  · refine ll_st i0 (S' := (p + 7, lo, st, h, k, q)) ?_ ?_
    · show am_br (decide (x = 0)) p 7 lo st h k q = _
      rw [decide_eq_true hx]
      rfl
    refine ll_st i7 (S' := (p + 8, lo, .int 0 :: st, h, k, q)) rfl ?_
    exact hn 0 (Or.inl rfl) (by rw [if_pos hx])
  · refine ll_st i0 (S' := (p + 3, lo, st, h, k, q)) ?_ ?_
    · show am_br (decide (x = 0)) p 7 lo st h k q = _
      rw [decide_eq_false hx]
      rfl
    refine ll_st i3 (S' := (p + 4, lo, .int 1 :: st, h, k, q)) rfl ?_
    refine ll_st i4 (S' := (p + 8, lo, .int 1 :: st, h, k, q)) rfl ?_
    exact hn 1 (Or.inr rfl) (by rw [if_neg hx])
abbrev ll_lo (u : Nat → Nat) (zi : Int32) (o5 o6 : Option Value) : List (Option Value) := [some (.retAddr 0), some (.ref (u 1)), some (.ref (u 40)), some (.ref (u 39)), some (.int zi), o5, o6]
/-- arguments of contracts -/
theorem ll_g1 {τ u : Nat → Nat} (hut : ∀ k, w_uq k = true → τ (u k) = k) : ab_g τ 2147483648 (kc_rho u 0) (1, 16, 0) (.ref (u 1)) := ⟨rfl, hut 1 (by decide +kernel), by decide⟩
theorem ll_g40 {τ u : Nat → Nat} (hut : ∀ k, w_uq k = true → τ (u k) = k) : ab_g τ 2147483648 (kc_rho u 0) (1, 640, 0) (.ref (u 40)) := ⟨rfl, hut 40 (by decide +kernel), by decide⟩
theorem ll_g39 {τ u : Nat → Nat} (hut : ∀ k, w_uq k = true → τ (u k) = k) : ab_g τ 2147483648 (kc_rho u 0) (1, 624, 0) (.ref (u 39)) := ⟨rfl, hut 39 (by decide +kernel), by decide⟩
theorem ll_gt {τ u : Nat → Nat} {z : Int32} : ab_g τ 2147483648 (kc_rho u 0) ab_top (.int z) := ⟨z, rfl, Nat.zero_le _, by have := ab_b_lt z; show ab_b z ≤ 4294967295; omega⟩
theorem ll_gb {τ u : Nat → Nat} {z : Int32} (h : z = 0 ∨ z = 1) : ab_g τ 2147483648 (kc_rho u 0) (w_r 0 1) (.int z) := by
  refine ⟨z, rfl, ?_, ?_⟩
  · show Nat.add 2147483648 0 ≤ ab_b z
    rcases h with rfl | rfl
    · rw [ab_b_0]; decide
    · rw [show ab_b 1 = 2147483649 by decide]; decide
  · show ab_b z ≤ Nat.add 2147483648 1
    rcases h with rfl | rfl
    · rw [ab_b_0]; decide
    · rw [show ab_b 1 = 2147483649 by decide]; decide
/-- what holds before the call of number N -/
def ll_I (u : Nat → Nat) (N : Nat) (h : am_H) (k q : Nat) : Prop := ii_I u h ∧ ∃ τ mc T, mc < 9 ∧ ab_U w_uq τ u ∧ (∀ k, w_uq k = true → τ (u k) = k) ∧ (2147483648 ≤ T ∧ T ≤ 2147483648 + 60 * N) ∧ j_J τ u mc T T h ∧ k ≤ 1000 + 8 * N ∧ q ≤ 5000 + 60 * N
theorem ll_c1 {τ u : Nat → Nat} {mc Tc Tm : Nat} {h : am_H} (hut : ∀ k, w_uq k = true → τ (u k) = k) (hJ : j_J τ u mc Tc Tm h) : ∃ vs, h[u 1]? = some (0, vs) := by
  have e := hut 1 (by decide +kernel)
  obtain ⟨vs, h1, -, -⟩ := hJ.1 (u 1) (by rw [e]; decide)
  rw [e] at h1
  exact ⟨vs, h1⟩
theorem ll_c40 {τ u : Nat → Nat} {mc Tc Tm : Nat} {h : am_H} (hut : ∀ k, w_uq k = true → τ (u k) = k) (hJ : j_J τ u mc Tc Tm h) : ∃ vs, h[u 40]? = some (9, vs) := by
  have e := hut 40 (by decide +kernel)
  obtain ⟨vs, h1, -, -⟩ := hJ.1 (u 40) (by rw [e]; decide)
  rw [e] at h1
  exact ⟨vs, h1⟩
theorem ll_ch {τ u : Nat → Nat} {mc Tc Tm : Nat} {zt za : Int32} {h : am_H} (hut : ∀ k, w_uq k = true → τ (u k) = k) (hJ : j_H τ u mc Tc Tm zt za h) : ∃ vs, h[u 40]? = some (9, vs) := by
  have e := hut 40 (by decide +kernel)
  obtain ⟨vs, h1, -, -⟩ := hJ.1 (u 40) (by rw [e]; decide)
  rw [e] at h1
  exact ⟨vs, h1⟩
/-- the script's ints, as they are read -/
def ll_a (l : Nat) (kn : List (Nat × Int32)) (zi : Int32) (x : Nat → Int32) : Prop := ∀ c : Nat, c < 4 → ¬ (zi + Int32.ofInt c < 0 ∨ l ≤ (zi + Int32.ofInt c).toNatClampNeg) ∧ am_kn kn (zi + Int32.ofInt c).toNatClampNeg = some (x c)
theorem ll_i0 : am_ins (am_c am_law) 0 = some (.new 8, 3) := by decide +kernel
theorem ll_i3 : am_ins (am_c am_law) 3 = some (.dup, 1) := by decide +kernel
theorem ll_i4 : am_ins (am_c am_law) 4 = some (.invokespecial 63, 3) := by decide +kernel
theorem ll_i7 : am_ins (am_c am_law) 7 = some (.astore_n 1, 1) := by decide +kernel
theorem ll_i8 : am_ins (am_c am_law) 8 = some (.new 64, 3) := by decide +kernel
theorem ll_i11 : am_ins (am_c am_law) 11 = some (.dup, 1) := by decide +kernel
theorem ll_i12 : am_ins (am_c am_law) 12 = some (.invokespecial 66, 3) := by decide +kernel
theorem ll_i15 : am_ins (am_c am_law) 15 = some (.astore_n 2, 1) := by decide +kernel
theorem ll_i16 : am_ins (am_c am_law) 16 = some (.iconst 1, 1) := by decide +kernel
theorem ll_i17 : am_ins (am_c am_law) 17 = some (.newarray .long, 2) := by decide +kernel
theorem ll_i19 : am_ins (am_c am_law) 19 = some (.astore_n 3, 1) := by decide +kernel
theorem ll_i20 : am_ins (am_c am_law) 20 = some (.iconst 0, 1) := by decide +kernel
theorem ll_i21 : am_ins (am_c am_law) 21 = some (.istore 4, 2) := by decide +kernel
theorem ll_i23 : am_ins (am_c am_law) 23 = some (.iload 4, 2) := by decide +kernel
theorem ll_i25 : am_ins (am_c am_law) 25 = some (.aload_n 0, 1) := by decide +kernel
theorem ll_i26 : am_ins (am_c am_law) 26 = some (.arraylength, 1) := by decide +kernel
theorem ll_i27 : am_ins (am_c am_law) 27 = some (.iconst 4, 1) := by decide +kernel
theorem ll_i28 : am_ins (am_c am_law) 28 = some (.isub, 1) := by decide +kernel
theorem ll_i29 : am_ins (am_c am_law) 29 = some (.if_icmp .gt 771, 3) := by decide +kernel
theorem ll_i32 : am_ins (am_c am_law) 32 = some (.aload_n 0, 1) := by decide +kernel
theorem ll_i33 : am_ins (am_c am_law) 33 = some (.iload 4, 2) := by decide +kernel
theorem ll_i35 : am_ins (am_c am_law) 35 = some (.iaload, 1) := by decide +kernel
theorem ll_i36 : am_ins (am_c am_law) 36 = some (.bipush 31, 2) := by decide +kernel
theorem ll_i38 : am_ins (am_c am_law) 38 = some (.iand, 1) := by decide +kernel
theorem ll_i39 : am_ins (am_c am_law) 39 = some (.tableswitch 755 0 17 #[85, 137, 185, 234, 287, 328, 356, 384, 397, 437, 489, 502, 515, 555, 607, 647, 675, 715], 85) := by decide +kernel
theorem ll_i124 : am_ins (am_c am_law) 124 = some (.aload_n 1, 1) := by decide +kernel
theorem ll_i125 : am_ins (am_c am_law) 125 = some (.aload_n 0, 1) := by decide +kernel
theorem ll_i126 : am_ins (am_c am_law) 126 = some (.iload 4, 2) := by decide +kernel
theorem ll_i128 : am_ins (am_c am_law) 128 = some (.iconst 1, 1) := by decide +kernel
theorem ll_i129 : am_ins (am_c am_law) 129 = some (.iadd, 1) := by decide +kernel
theorem ll_i130 : am_ins (am_c am_law) 130 = some (.iaload, 1) := by decide +kernel
theorem ll_i131 : am_ins (am_c am_law) 131 = some (.aload_n 0, 1) := by decide +kernel
theorem ll_i132 : am_ins (am_c am_law) 132 = some (.iload 4, 2) := by decide +kernel
theorem ll_i134 : am_ins (am_c am_law) 134 = some (.iconst 2, 1) := by decide +kernel
theorem ll_i135 : am_ins (am_c am_law) 135 = some (.iadd, 1) := by decide +kernel
theorem ll_i136 : am_ins (am_c am_law) 136 = some (.iaload, 1) := by decide +kernel
theorem ll_i137 : am_ins (am_c am_law) 137 = some (.aload_n 0, 1) := by decide +kernel
theorem ll_i138 : am_ins (am_c am_law) 138 = some (.iload 4, 2) := by decide +kernel
theorem ll_i140 : am_ins (am_c am_law) 140 = some (.iconst 3, 1) := by decide +kernel
theorem ll_i141 : am_ins (am_c am_law) 141 = some (.iadd, 1) := by decide +kernel
theorem ll_i142 : am_ins (am_c am_law) 142 = some (.iaload, 1) := by decide +kernel
theorem ll_i143 : am_ins (am_c am_law) 143 = some (.aload_n 3, 1) := by decide +kernel
theorem ll_i144 : am_ins (am_c am_law) 144 = some (.invokestatic 67, 3) := by decide +kernel
theorem ll_i147 : am_ins (am_c am_law) 147 = some (.istore 5, 2) := by decide +kernel
theorem ll_i149 : am_ins (am_c am_law) 149 = some (.aload_n 2, 1) := by decide +kernel
theorem ll_i150 : am_ins (am_c am_law) 150 = some (.aload_n 0, 1) := by decide +kernel
theorem ll_i151 : am_ins (am_c am_law) 151 = some (.iload 4, 2) := by decide +kernel
theorem ll_i153 : am_ins (am_c am_law) 153 = some (.iconst 1, 1) := by decide +kernel
theorem ll_i154 : am_ins (am_c am_law) 154 = some (.iadd, 1) := by decide +kernel
theorem ll_i155 : am_ins (am_c am_law) 155 = some (.iaload, 1) := by decide +kernel
theorem ll_i156 : am_ins (am_c am_law) 156 = some (.aload_n 0, 1) := by decide +kernel
theorem ll_i157 : am_ins (am_c am_law) 157 = some (.iload 4, 2) := by decide +kernel
theorem ll_i159 : am_ins (am_c am_law) 159 = some (.iconst 2, 1) := by decide +kernel
theorem ll_i160 : am_ins (am_c am_law) 160 = some (.iadd, 1) := by decide +kernel
theorem ll_i161 : am_ins (am_c am_law) 161 = some (.iaload, 1) := by decide +kernel
theorem ll_i162 : am_ins (am_c am_law) 162 = some (.aload_n 0, 1) := by decide +kernel
theorem ll_i163 : am_ins (am_c am_law) 163 = some (.iload 4, 2) := by decide +kernel
theorem ll_i165 : am_ins (am_c am_law) 165 = some (.iconst 3, 1) := by decide +kernel
theorem ll_i166 : am_ins (am_c am_law) 166 = some (.iadd, 1) := by decide +kernel
theorem ll_i167 : am_ins (am_c am_law) 167 = some (.iaload, 1) := by decide +kernel
theorem ll_i168 : am_ins (am_c am_law) 168 = some (.invokevirtual 72, 3) := by decide +kernel
theorem ll_i171 : am_ins (am_c am_law) 171 = some (.istore 6, 2) := by decide +kernel
theorem ll_i173 : am_ins (am_c am_law) 173 = some (.goto 621, 3) := by decide +kernel
theorem ll_i176 : am_ins (am_c am_law) 176 = some (.aload_n 1, 1) := by decide +kernel
theorem ll_i177 : am_ins (am_c am_law) 177 = some (.aload_n 0, 1) := by decide +kernel
theorem ll_i178 : am_ins (am_c am_law) 178 = some (.iload 4, 2) := by decide +kernel
theorem ll_i180 : am_ins (am_c am_law) 180 = some (.iconst 1, 1) := by decide +kernel
theorem ll_i181 : am_ins (am_c am_law) 181 = some (.iadd, 1) := by decide +kernel
theorem ll_i182 : am_ins (am_c am_law) 182 = some (.iaload, 1) := by decide +kernel
theorem ll_i183 : am_ins (am_c am_law) 183 = some (.aload_n 0, 1) := by decide +kernel
theorem ll_i184 : am_ins (am_c am_law) 184 = some (.iload 4, 2) := by decide +kernel
theorem ll_i186 : am_ins (am_c am_law) 186 = some (.iconst 2, 1) := by decide +kernel
theorem ll_i187 : am_ins (am_c am_law) 187 = some (.iadd, 1) := by decide +kernel
theorem ll_i188 : am_ins (am_c am_law) 188 = some (.iaload, 1) := by decide +kernel
theorem ll_i189 : am_ins (am_c am_law) 189 = some (.invokestatic 73, 3) := by decide +kernel
theorem ll_i192 : am_ins (am_c am_law) 192 = some (.istore 5, 2) := by decide +kernel
theorem ll_i194 : am_ins (am_c am_law) 194 = some (.aload_n 2, 1) := by decide +kernel
theorem ll_i195 : am_ins (am_c am_law) 195 = some (.aload_n 0, 1) := by decide +kernel
theorem ll_i196 : am_ins (am_c am_law) 196 = some (.iload 4, 2) := by decide +kernel
theorem ll_i198 : am_ins (am_c am_law) 198 = some (.iconst 1, 1) := by decide +kernel
theorem ll_i199 : am_ins (am_c am_law) 199 = some (.iadd, 1) := by decide +kernel
theorem ll_i200 : am_ins (am_c am_law) 200 = some (.iaload, 1) := by decide +kernel
theorem ll_i201 : am_ins (am_c am_law) 201 = some (.aload_n 0, 1) := by decide +kernel
theorem ll_i202 : am_ins (am_c am_law) 202 = some (.iload 4, 2) := by decide +kernel
theorem ll_i204 : am_ins (am_c am_law) 204 = some (.iconst 2, 1) := by decide +kernel
theorem ll_i205 : am_ins (am_c am_law) 205 = some (.iadd, 1) := by decide +kernel
theorem ll_i206 : am_ins (am_c am_law) 206 = some (.iaload, 1) := by decide +kernel
theorem ll_i207 : am_ins (am_c am_law) 207 = some (.invokevirtual 76, 3) := by decide +kernel
theorem ll_i210 : am_ins (am_c am_law) 210 = some (.aload_n 2, 1) := by decide +kernel
theorem ll_i211 : am_ins (am_c am_law) 211 = some (.invokevirtual 77, 3) := by decide +kernel
theorem ll_i214 : am_ins (am_c am_law) 214 = some (.iload 5, 2) := by decide +kernel
theorem ll_i216 : am_ins (am_c am_law) 216 = some (.if_icmp .eq 5, 3) := by decide +kernel
theorem ll_i219 : am_ins (am_c am_law) 219 = some (.iconst 0, 1) := by decide +kernel
theorem ll_i220 : am_ins (am_c am_law) 220 = some (.ireturn, 1) := by decide +kernel
theorem ll_i221 : am_ins (am_c am_law) 221 = some (.goto 573, 3) := by decide +kernel
theorem ll_i224 : am_ins (am_c am_law) 224 = some (.aload_n 1, 1) := by decide +kernel
theorem ll_i225 : am_ins (am_c am_law) 225 = some (.aload_n 0, 1) := by decide +kernel
theorem ll_i226 : am_ins (am_c am_law) 226 = some (.iload 4, 2) := by decide +kernel
theorem ll_i228 : am_ins (am_c am_law) 228 = some (.iconst 1, 1) := by decide +kernel
theorem ll_i229 : am_ins (am_c am_law) 229 = some (.iadd, 1) := by decide +kernel
theorem ll_i230 : am_ins (am_c am_law) 230 = some (.iaload, 1) := by decide +kernel
theorem ll_i231 : am_ins (am_c am_law) 231 = some (.aload_n 0, 1) := by decide +kernel
theorem ll_i232 : am_ins (am_c am_law) 232 = some (.iload 4, 2) := by decide +kernel
theorem ll_i234 : am_ins (am_c am_law) 234 = some (.iconst 2, 1) := by decide +kernel
theorem ll_i235 : am_ins (am_c am_law) 235 = some (.iadd, 1) := by decide +kernel
theorem ll_i236 : am_ins (am_c am_law) 236 = some (.iaload, 1) := by decide +kernel
theorem ll_i237 : am_ins (am_c am_law) 237 = some (.aload_n 0, 1) := by decide +kernel
theorem ll_i238 : am_ins (am_c am_law) 238 = some (.iload 4, 2) := by decide +kernel
theorem ll_i240 : am_ins (am_c am_law) 240 = some (.iconst 3, 1) := by decide +kernel
theorem ll_i241 : am_ins (am_c am_law) 241 = some (.iadd, 1) := by decide +kernel
theorem ll_i242 : am_ins (am_c am_law) 242 = some (.iaload, 1) := by decide +kernel
theorem ll_i243 : am_ins (am_c am_law) 243 = some (.invokestatic 81, 3) := by decide +kernel
theorem ll_i246 : am_ins (am_c am_law) 246 = some (.istore 5, 2) := by decide +kernel
theorem ll_i248 : am_ins (am_c am_law) 248 = some (.aload_n 2, 1) := by decide +kernel
theorem ll_i249 : am_ins (am_c am_law) 249 = some (.aload_n 0, 1) := by decide +kernel
theorem ll_i250 : am_ins (am_c am_law) 250 = some (.iload 4, 2) := by decide +kernel
theorem ll_i252 : am_ins (am_c am_law) 252 = some (.iconst 1, 1) := by decide +kernel
theorem ll_i253 : am_ins (am_c am_law) 253 = some (.iadd, 1) := by decide +kernel
theorem ll_i254 : am_ins (am_c am_law) 254 = some (.iaload, 1) := by decide +kernel
theorem ll_i255 : am_ins (am_c am_law) 255 = some (.aload_n 0, 1) := by decide +kernel
theorem ll_i256 : am_ins (am_c am_law) 256 = some (.iload 4, 2) := by decide +kernel
theorem ll_i258 : am_ins (am_c am_law) 258 = some (.iconst 2, 1) := by decide +kernel
theorem ll_i259 : am_ins (am_c am_law) 259 = some (.iadd, 1) := by decide +kernel
theorem ll_i260 : am_ins (am_c am_law) 260 = some (.iaload, 1) := by decide +kernel
theorem ll_i261 : am_ins (am_c am_law) 261 = some (.aload_n 0, 1) := by decide +kernel
theorem ll_i262 : am_ins (am_c am_law) 262 = some (.iload 4, 2) := by decide +kernel
theorem ll_i264 : am_ins (am_c am_law) 264 = some (.iconst 3, 1) := by decide +kernel
theorem ll_i265 : am_ins (am_c am_law) 265 = some (.iadd, 1) := by decide +kernel
theorem ll_i266 : am_ins (am_c am_law) 266 = some (.iaload, 1) := by decide +kernel
theorem ll_i267 : am_ins (am_c am_law) 267 = some (.invokevirtual 84, 3) := by decide +kernel
theorem ll_i270 : am_ins (am_c am_law) 270 = some (.goto 524, 3) := by decide +kernel
theorem ll_i273 : am_ins (am_c am_law) 273 = some (.aload_n 1, 1) := by decide +kernel
theorem ll_i274 : am_ins (am_c am_law) 274 = some (.aload_n 0, 1) := by decide +kernel
theorem ll_i275 : am_ins (am_c am_law) 275 = some (.iload 4, 2) := by decide +kernel
theorem ll_i277 : am_ins (am_c am_law) 277 = some (.iconst 1, 1) := by decide +kernel
theorem ll_i278 : am_ins (am_c am_law) 278 = some (.iadd, 1) := by decide +kernel
theorem ll_i279 : am_ins (am_c am_law) 279 = some (.iaload, 1) := by decide +kernel
theorem ll_i280 : am_ins (am_c am_law) 280 = some (.aload_n 0, 1) := by decide +kernel
theorem ll_i281 : am_ins (am_c am_law) 281 = some (.iload 4, 2) := by decide +kernel
theorem ll_i283 : am_ins (am_c am_law) 283 = some (.iconst 2, 1) := by decide +kernel
theorem ll_i284 : am_ins (am_c am_law) 284 = some (.iadd, 1) := by decide +kernel
theorem ll_i285 : am_ins (am_c am_law) 285 = some (.iaload, 1) := by decide +kernel
theorem ll_i286 : am_ins (am_c am_law) 286 = some (.ifCond .eq 7, 3) := by decide +kernel
theorem ll_i289 : am_ins (am_c am_law) 289 = some (.iconst 1, 1) := by decide +kernel
theorem ll_i290 : am_ins (am_c am_law) 290 = some (.goto 4, 3) := by decide +kernel
theorem ll_i293 : am_ins (am_c am_law) 293 = some (.iconst 0, 1) := by decide +kernel
theorem ll_i294 : am_ins (am_c am_law) 294 = some (.invokestatic 85, 3) := by decide +kernel
theorem ll_i297 : am_ins (am_c am_law) 297 = some (.istore 5, 2) := by decide +kernel
theorem ll_i299 : am_ins (am_c am_law) 299 = some (.aload_n 2, 1) := by decide +kernel
theorem ll_i300 : am_ins (am_c am_law) 300 = some (.aload_n 0, 1) := by decide +kernel
theorem ll_i301 : am_ins (am_c am_law) 301 = some (.iload 4, 2) := by decide +kernel
theorem ll_i303 : am_ins (am_c am_law) 303 = some (.iconst 1, 1) := by decide +kernel
theorem ll_i304 : am_ins (am_c am_law) 304 = some (.iadd, 1) := by decide +kernel
theorem ll_i305 : am_ins (am_c am_law) 305 = some (.iaload, 1) := by decide +kernel
theorem ll_i306 : am_ins (am_c am_law) 306 = some (.aload_n 0, 1) := by decide +kernel
theorem ll_i307 : am_ins (am_c am_law) 307 = some (.iload 4, 2) := by decide +kernel
theorem ll_i309 : am_ins (am_c am_law) 309 = some (.iconst 2, 1) := by decide +kernel
theorem ll_i310 : am_ins (am_c am_law) 310 = some (.iadd, 1) := by decide +kernel
theorem ll_i311 : am_ins (am_c am_law) 311 = some (.iaload, 1) := by decide +kernel
theorem ll_i312 : am_ins (am_c am_law) 312 = some (.ifCond .eq 7, 3) := by decide +kernel
theorem ll_i315 : am_ins (am_c am_law) 315 = some (.iconst 1, 1) := by decide +kernel
theorem ll_i316 : am_ins (am_c am_law) 316 = some (.goto 4, 3) := by decide +kernel
theorem ll_i319 : am_ins (am_c am_law) 319 = some (.iconst 0, 1) := by decide +kernel
theorem ll_i320 : am_ins (am_c am_law) 320 = some (.invokevirtual 88, 3) := by decide +kernel
theorem ll_i323 : am_ins (am_c am_law) 323 = some (.goto 471, 3) := by decide +kernel
theorem ll_i326 : am_ins (am_c am_law) 326 = some (.aload_n 1, 1) := by decide +kernel
theorem ll_i327 : am_ins (am_c am_law) 327 = some (.aload_n 0, 1) := by decide +kernel
theorem ll_i328 : am_ins (am_c am_law) 328 = some (.iload 4, 2) := by decide +kernel
theorem ll_i330 : am_ins (am_c am_law) 330 = some (.iconst 1, 1) := by decide +kernel
theorem ll_i331 : am_ins (am_c am_law) 331 = some (.iadd, 1) := by decide +kernel
theorem ll_i332 : am_ins (am_c am_law) 332 = some (.iaload, 1) := by decide +kernel
theorem ll_i333 : am_ins (am_c am_law) 333 = some (.ifCond .eq 7, 3) := by decide +kernel
theorem ll_i336 : am_ins (am_c am_law) 336 = some (.iconst 1, 1) := by decide +kernel
theorem ll_i337 : am_ins (am_c am_law) 337 = some (.goto 4, 3) := by decide +kernel
theorem ll_i340 : am_ins (am_c am_law) 340 = some (.iconst 0, 1) := by decide +kernel
theorem ll_i341 : am_ins (am_c am_law) 341 = some (.invokevirtual 89, 3) := by decide +kernel
theorem ll_i344 : am_ins (am_c am_law) 344 = some (.pop, 1) := by decide +kernel
theorem ll_i345 : am_ins (am_c am_law) 345 = some (.aload_n 2, 1) := by decide +kernel
theorem ll_i346 : am_ins (am_c am_law) 346 = some (.aload_n 0, 1) := by decide +kernel
theorem ll_i347 : am_ins (am_c am_law) 347 = some (.iload 4, 2) := by decide +kernel
theorem ll_i349 : am_ins (am_c am_law) 349 = some (.iconst 1, 1) := by decide +kernel
theorem ll_i350 : am_ins (am_c am_law) 350 = some (.iadd, 1) := by decide +kernel
theorem ll_i351 : am_ins (am_c am_law) 351 = some (.iaload, 1) := by decide +kernel
theorem ll_i352 : am_ins (am_c am_law) 352 = some (.ifCond .eq 7, 3) := by decide +kernel
theorem ll_i355 : am_ins (am_c am_law) 355 = some (.iconst 1, 1) := by decide +kernel
theorem ll_i356 : am_ins (am_c am_law) 356 = some (.goto 4, 3) := by decide +kernel
theorem ll_i359 : am_ins (am_c am_law) 359 = some (.iconst 0, 1) := by decide +kernel
theorem ll_i360 : am_ins (am_c am_law) 360 = some (.invokevirtual 93, 3) := by decide +kernel
theorem ll_i363 : am_ins (am_c am_law) 363 = some (.pop, 1) := by decide +kernel
theorem ll_i364 : am_ins (am_c am_law) 364 = some (.goto 430, 3) := by decide +kernel
theorem ll_i367 : am_ins (am_c am_law) 367 = some (.aload_n 1, 1) := by decide +kernel
theorem ll_i368 : am_ins (am_c am_law) 368 = some (.aload_n 0, 1) := by decide +kernel
theorem ll_i369 : am_ins (am_c am_law) 369 = some (.iload 4, 2) := by decide +kernel
theorem ll_i371 : am_ins (am_c am_law) 371 = some (.iconst 1, 1) := by decide +kernel
theorem ll_i372 : am_ins (am_c am_law) 372 = some (.iadd, 1) := by decide +kernel
theorem ll_i373 : am_ins (am_c am_law) 373 = some (.iaload, 1) := by decide +kernel
theorem ll_i374 : am_ins (am_c am_law) 374 = some (.aload_n 3, 1) := by decide +kernel
theorem ll_i375 : am_ins (am_c am_law) 375 = some (.invokestatic 94, 3) := by decide +kernel
theorem ll_i378 : am_ins (am_c am_law) 378 = some (.istore 5, 2) := by decide +kernel
theorem ll_i380 : am_ins (am_c am_law) 380 = some (.aload_n 2, 1) := by decide +kernel
theorem ll_i381 : am_ins (am_c am_law) 381 = some (.aload_n 0, 1) := by decide +kernel
theorem ll_i382 : am_ins (am_c am_law) 382 = some (.iload 4, 2) := by decide +kernel
theorem ll_i384 : am_ins (am_c am_law) 384 = some (.iconst 1, 1) := by decide +kernel
theorem ll_i385 : am_ins (am_c am_law) 385 = some (.iadd, 1) := by decide +kernel
theorem ll_i386 : am_ins (am_c am_law) 386 = some (.iaload, 1) := by decide +kernel
theorem ll_i387 : am_ins (am_c am_law) 387 = some (.invokevirtual 97, 3) := by decide +kernel
theorem ll_i390 : am_ins (am_c am_law) 390 = some (.istore 6, 2) := by decide +kernel
theorem ll_i392 : am_ins (am_c am_law) 392 = some (.goto 402, 3) := by decide +kernel
theorem ll_i395 : am_ins (am_c am_law) 395 = some (.aload_n 1, 1) := by decide +kernel
theorem ll_i396 : am_ins (am_c am_law) 396 = some (.aload_n 0, 1) := by decide +kernel
theorem ll_i397 : am_ins (am_c am_law) 397 = some (.iload 4, 2) := by decide +kernel
theorem ll_i399 : am_ins (am_c am_law) 399 = some (.iconst 1, 1) := by decide +kernel
theorem ll_i400 : am_ins (am_c am_law) 400 = some (.iadd, 1) := by decide +kernel
theorem ll_i401 : am_ins (am_c am_law) 401 = some (.iaload, 1) := by decide +kernel
theorem ll_i402 : am_ins (am_c am_law) 402 = some (.aload_n 3, 1) := by decide +kernel
theorem ll_i403 : am_ins (am_c am_law) 403 = some (.invokestatic 98, 3) := by decide +kernel
theorem ll_i406 : am_ins (am_c am_law) 406 = some (.istore 5, 2) := by decide +kernel
theorem ll_i408 : am_ins (am_c am_law) 408 = some (.aload_n 2, 1) := by decide +kernel
theorem ll_i409 : am_ins (am_c am_law) 409 = some (.aload_n 0, 1) := by decide +kernel
theorem ll_i410 : am_ins (am_c am_law) 410 = some (.iload 4, 2) := by decide +kernel
theorem ll_i412 : am_ins (am_c am_law) 412 = some (.iconst 1, 1) := by decide +kernel
theorem ll_i413 : am_ins (am_c am_law) 413 = some (.iadd, 1) := by decide +kernel
theorem ll_i414 : am_ins (am_c am_law) 414 = some (.iaload, 1) := by decide +kernel
theorem ll_i415 : am_ins (am_c am_law) 415 = some (.invokevirtual 100, 3) := by decide +kernel
theorem ll_i418 : am_ins (am_c am_law) 418 = some (.istore 6, 2) := by decide +kernel
theorem ll_i420 : am_ins (am_c am_law) 420 = some (.goto 374, 3) := by decide +kernel
theorem ll_i423 : am_ins (am_c am_law) 423 = some (.aload_n 1, 1) := by decide +kernel
theorem ll_i424 : am_ins (am_c am_law) 424 = some (.invokevirtual 101, 3) := by decide +kernel
theorem ll_i427 : am_ins (am_c am_law) 427 = some (.pop, 1) := by decide +kernel
theorem ll_i428 : am_ins (am_c am_law) 428 = some (.aload_n 2, 1) := by decide +kernel
theorem ll_i429 : am_ins (am_c am_law) 429 = some (.invokevirtual 104, 3) := by decide +kernel
theorem ll_i432 : am_ins (am_c am_law) 432 = some (.pop, 1) := by decide +kernel
theorem ll_i433 : am_ins (am_c am_law) 433 = some (.goto 361, 3) := by decide +kernel
theorem ll_i436 : am_ins (am_c am_law) 436 = some (.aload_n 1, 1) := by decide +kernel
theorem ll_i437 : am_ins (am_c am_law) 437 = some (.aload_n 0, 1) := by decide +kernel
theorem ll_i438 : am_ins (am_c am_law) 438 = some (.iload 4, 2) := by decide +kernel
theorem ll_i440 : am_ins (am_c am_law) 440 = some (.iconst 1, 1) := by decide +kernel
theorem ll_i441 : am_ins (am_c am_law) 441 = some (.iadd, 1) := by decide +kernel
theorem ll_i442 : am_ins (am_c am_law) 442 = some (.iaload, 1) := by decide +kernel
theorem ll_i443 : am_ins (am_c am_law) 443 = some (.aload_n 0, 1) := by decide +kernel
theorem ll_i444 : am_ins (am_c am_law) 444 = some (.iload 4, 2) := by decide +kernel
theorem ll_i446 : am_ins (am_c am_law) 446 = some (.iconst 2, 1) := by decide +kernel
theorem ll_i447 : am_ins (am_c am_law) 447 = some (.iadd, 1) := by decide +kernel
theorem ll_i448 : am_ins (am_c am_law) 448 = some (.iaload, 1) := by decide +kernel
theorem ll_i449 : am_ins (am_c am_law) 449 = some (.aload_n 3, 1) := by decide +kernel
theorem ll_i450 : am_ins (am_c am_law) 450 = some (.invokestatic 105, 3) := by decide +kernel
theorem ll_i453 : am_ins (am_c am_law) 453 = some (.istore 5, 2) := by decide +kernel
theorem ll_i455 : am_ins (am_c am_law) 455 = some (.aload_n 2, 1) := by decide +kernel
theorem ll_i456 : am_ins (am_c am_law) 456 = some (.aload_n 0, 1) := by decide +kernel
theorem ll_i457 : am_ins (am_c am_law) 457 = some (.iload 4, 2) := by decide +kernel
theorem ll_i459 : am_ins (am_c am_law) 459 = some (.iconst 1, 1) := by decide +kernel
theorem ll_i460 : am_ins (am_c am_law) 460 = some (.iadd, 1) := by decide +kernel
theorem ll_i461 : am_ins (am_c am_law) 461 = some (.iaload, 1) := by decide +kernel
theorem ll_i462 : am_ins (am_c am_law) 462 = some (.aload_n 0, 1) := by decide +kernel
theorem ll_i463 : am_ins (am_c am_law) 463 = some (.iload 4, 2) := by decide +kernel
theorem ll_i465 : am_ins (am_c am_law) 465 = some (.iconst 2, 1) := by decide +kernel
theorem ll_i466 : am_ins (am_c am_law) 466 = some (.iadd, 1) := by decide +kernel
theorem ll_i467 : am_ins (am_c am_law) 467 = some (.iaload, 1) := by decide +kernel
theorem ll_i468 : am_ins (am_c am_law) 468 = some (.invokevirtual 108, 3) := by decide +kernel
theorem ll_i471 : am_ins (am_c am_law) 471 = some (.istore 6, 2) := by decide +kernel
theorem ll_i473 : am_ins (am_c am_law) 473 = some (.goto 321, 3) := by decide +kernel
theorem ll_i476 : am_ins (am_c am_law) 476 = some (.aload_n 1, 1) := by decide +kernel
theorem ll_i477 : am_ins (am_c am_law) 477 = some (.aload_n 0, 1) := by decide +kernel
theorem ll_i478 : am_ins (am_c am_law) 478 = some (.iload 4, 2) := by decide +kernel
theorem ll_i480 : am_ins (am_c am_law) 480 = some (.iconst 1, 1) := by decide +kernel
theorem ll_i481 : am_ins (am_c am_law) 481 = some (.iadd, 1) := by decide +kernel
theorem ll_i482 : am_ins (am_c am_law) 482 = some (.iaload, 1) := by decide +kernel
theorem ll_i483 : am_ins (am_c am_law) 483 = some (.aload_n 0, 1) := by decide +kernel
theorem ll_i484 : am_ins (am_c am_law) 484 = some (.iload 4, 2) := by decide +kernel
theorem ll_i486 : am_ins (am_c am_law) 486 = some (.iconst 2, 1) := by decide +kernel
theorem ll_i487 : am_ins (am_c am_law) 487 = some (.iadd, 1) := by decide +kernel
theorem ll_i488 : am_ins (am_c am_law) 488 = some (.iaload, 1) := by decide +kernel
theorem ll_i489 : am_ins (am_c am_law) 489 = some (.aload_n 0, 1) := by decide +kernel
theorem ll_i490 : am_ins (am_c am_law) 490 = some (.iload 4, 2) := by decide +kernel
theorem ll_i492 : am_ins (am_c am_law) 492 = some (.iconst 3, 1) := by decide +kernel
theorem ll_i493 : am_ins (am_c am_law) 493 = some (.iadd, 1) := by decide +kernel
theorem ll_i494 : am_ins (am_c am_law) 494 = some (.iaload, 1) := by decide +kernel
theorem ll_i495 : am_ins (am_c am_law) 495 = some (.aload_n 3, 1) := by decide +kernel
theorem ll_i496 : am_ins (am_c am_law) 496 = some (.invokestatic 109, 3) := by decide +kernel
theorem ll_i499 : am_ins (am_c am_law) 499 = some (.istore 5, 2) := by decide +kernel
theorem ll_i501 : am_ins (am_c am_law) 501 = some (.aload_n 2, 1) := by decide +kernel
theorem ll_i502 : am_ins (am_c am_law) 502 = some (.aload_n 0, 1) := by decide +kernel
theorem ll_i503 : am_ins (am_c am_law) 503 = some (.iload 4, 2) := by decide +kernel
theorem ll_i505 : am_ins (am_c am_law) 505 = some (.iconst 1, 1) := by decide +kernel
theorem ll_i506 : am_ins (am_c am_law) 506 = some (.iadd, 1) := by decide +kernel
theorem ll_i507 : am_ins (am_c am_law) 507 = some (.iaload, 1) := by decide +kernel
theorem ll_i508 : am_ins (am_c am_law) 508 = some (.aload_n 0, 1) := by decide +kernel
theorem ll_i509 : am_ins (am_c am_law) 509 = some (.iload 4, 2) := by decide +kernel
theorem ll_i511 : am_ins (am_c am_law) 511 = some (.iconst 2, 1) := by decide +kernel
theorem ll_i512 : am_ins (am_c am_law) 512 = some (.iadd, 1) := by decide +kernel
theorem ll_i513 : am_ins (am_c am_law) 513 = some (.iaload, 1) := by decide +kernel
theorem ll_i514 : am_ins (am_c am_law) 514 = some (.aload_n 0, 1) := by decide +kernel
theorem ll_i515 : am_ins (am_c am_law) 515 = some (.iload 4, 2) := by decide +kernel
theorem ll_i517 : am_ins (am_c am_law) 517 = some (.iconst 3, 1) := by decide +kernel
theorem ll_i518 : am_ins (am_c am_law) 518 = some (.iadd, 1) := by decide +kernel
theorem ll_i519 : am_ins (am_c am_law) 519 = some (.iaload, 1) := by decide +kernel
theorem ll_i520 : am_ins (am_c am_law) 520 = some (.invokevirtual 111, 3) := by decide +kernel
theorem ll_i523 : am_ins (am_c am_law) 523 = some (.istore 6, 2) := by decide +kernel
theorem ll_i525 : am_ins (am_c am_law) 525 = some (.goto 269, 3) := by decide +kernel
theorem ll_i528 : am_ins (am_c am_law) 528 = some (.aload_n 1, 1) := by decide +kernel
theorem ll_i529 : am_ins (am_c am_law) 529 = some (.invokevirtual 112, 3) := by decide +kernel
theorem ll_i532 : am_ins (am_c am_law) 532 = some (.pop, 1) := by decide +kernel
theorem ll_i533 : am_ins (am_c am_law) 533 = some (.aload_n 2, 1) := by decide +kernel
theorem ll_i534 : am_ins (am_c am_law) 534 = some (.invokevirtual 115, 3) := by decide +kernel
theorem ll_i537 : am_ins (am_c am_law) 537 = some (.pop, 1) := by decide +kernel
theorem ll_i538 : am_ins (am_c am_law) 538 = some (.goto 256, 3) := by decide +kernel
theorem ll_i541 : am_ins (am_c am_law) 541 = some (.aload_n 1, 1) := by decide +kernel
theorem ll_i542 : am_ins (am_c am_law) 542 = some (.invokevirtual 116, 3) := by decide +kernel
theorem ll_i545 : am_ins (am_c am_law) 545 = some (.pop, 1) := by decide +kernel
theorem ll_i546 : am_ins (am_c am_law) 546 = some (.aload_n 2, 1) := by decide +kernel
theorem ll_i547 : am_ins (am_c am_law) 547 = some (.invokevirtual 119, 3) := by decide +kernel
theorem ll_i550 : am_ins (am_c am_law) 550 = some (.pop, 1) := by decide +kernel
theorem ll_i551 : am_ins (am_c am_law) 551 = some (.goto 243, 3) := by decide +kernel
theorem ll_i554 : am_ins (am_c am_law) 554 = some (.aload_n 1, 1) := by decide +kernel
theorem ll_i555 : am_ins (am_c am_law) 555 = some (.aload_n 0, 1) := by decide +kernel
theorem ll_i556 : am_ins (am_c am_law) 556 = some (.iload 4, 2) := by decide +kernel
theorem ll_i558 : am_ins (am_c am_law) 558 = some (.iconst 1, 1) := by decide +kernel
theorem ll_i559 : am_ins (am_c am_law) 559 = some (.iadd, 1) := by decide +kernel
theorem ll_i560 : am_ins (am_c am_law) 560 = some (.iaload, 1) := by decide +kernel
theorem ll_i561 : am_ins (am_c am_law) 561 = some (.aload_n 0, 1) := by decide +kernel
theorem ll_i562 : am_ins (am_c am_law) 562 = some (.iload 4, 2) := by decide +kernel
theorem ll_i564 : am_ins (am_c am_law) 564 = some (.iconst 2, 1) := by decide +kernel
theorem ll_i565 : am_ins (am_c am_law) 565 = some (.iadd, 1) := by decide +kernel
theorem ll_i566 : am_ins (am_c am_law) 566 = some (.iaload, 1) := by decide +kernel
theorem ll_i567 : am_ins (am_c am_law) 567 = some (.aload_n 3, 1) := by decide +kernel
theorem ll_i568 : am_ins (am_c am_law) 568 = some (.invokestatic 120, 3) := by decide +kernel
theorem ll_i571 : am_ins (am_c am_law) 571 = some (.istore 5, 2) := by decide +kernel
theorem ll_i573 : am_ins (am_c am_law) 573 = some (.aload_n 2, 1) := by decide +kernel
theorem ll_i574 : am_ins (am_c am_law) 574 = some (.aload_n 0, 1) := by decide +kernel
theorem ll_i575 : am_ins (am_c am_law) 575 = some (.iload 4, 2) := by decide +kernel
theorem ll_i577 : am_ins (am_c am_law) 577 = some (.iconst 1, 1) := by decide +kernel
theorem ll_i578 : am_ins (am_c am_law) 578 = some (.iadd, 1) := by decide +kernel
theorem ll_i579 : am_ins (am_c am_law) 579 = some (.iaload, 1) := by decide +kernel
theorem ll_i580 : am_ins (am_c am_law) 580 = some (.aload_n 0, 1) := by decide +kernel
theorem ll_i581 : am_ins (am_c am_law) 581 = some (.iload 4, 2) := by decide +kernel
theorem ll_i583 : am_ins (am_c am_law) 583 = some (.iconst 2, 1) := by decide +kernel
theorem ll_i584 : am_ins (am_c am_law) 584 = some (.iadd, 1) := by decide +kernel
theorem ll_i585 : am_ins (am_c am_law) 585 = some (.iaload, 1) := by decide +kernel
theorem ll_i586 : am_ins (am_c am_law) 586 = some (.invokevirtual 122, 3) := by decide +kernel
theorem ll_i589 : am_ins (am_c am_law) 589 = some (.istore 6, 2) := by decide +kernel
theorem ll_i591 : am_ins (am_c am_law) 591 = some (.goto 203, 3) := by decide +kernel
theorem ll_i594 : am_ins (am_c am_law) 594 = some (.aload_n 1, 1) := by decide +kernel
theorem ll_i595 : am_ins (am_c am_law) 595 = some (.aload_n 0, 1) := by decide +kernel
theorem ll_i596 : am_ins (am_c am_law) 596 = some (.iload 4, 2) := by decide +kernel
theorem ll_i598 : am_ins (am_c am_law) 598 = some (.iconst 1, 1) := by decide +kernel
theorem ll_i599 : am_ins (am_c am_law) 599 = some (.iadd, 1) := by decide +kernel
theorem ll_i600 : am_ins (am_c am_law) 600 = some (.iaload, 1) := by decide +kernel
theorem ll_i601 : am_ins (am_c am_law) 601 = some (.aload_n 0, 1) := by decide +kernel
theorem ll_i602 : am_ins (am_c am_law) 602 = some (.iload 4, 2) := by decide +kernel
theorem ll_i604 : am_ins (am_c am_law) 604 = some (.iconst 2, 1) := by decide +kernel
theorem ll_i605 : am_ins (am_c am_law) 605 = some (.iadd, 1) := by decide +kernel
theorem ll_i606 : am_ins (am_c am_law) 606 = some (.iaload, 1) := by decide +kernel
theorem ll_i607 : am_ins (am_c am_law) 607 = some (.aload_n 0, 1) := by decide +kernel
theorem ll_i608 : am_ins (am_c am_law) 608 = some (.iload 4, 2) := by decide +kernel
theorem ll_i610 : am_ins (am_c am_law) 610 = some (.iconst 3, 1) := by decide +kernel
theorem ll_i611 : am_ins (am_c am_law) 611 = some (.iadd, 1) := by decide +kernel
theorem ll_i612 : am_ins (am_c am_law) 612 = some (.iaload, 1) := by decide +kernel
theorem ll_i613 : am_ins (am_c am_law) 613 = some (.aload_n 3, 1) := by decide +kernel
theorem ll_i614 : am_ins (am_c am_law) 614 = some (.invokestatic 123, 3) := by decide +kernel
theorem ll_i617 : am_ins (am_c am_law) 617 = some (.istore 5, 2) := by decide +kernel
theorem ll_i619 : am_ins (am_c am_law) 619 = some (.aload_n 2, 1) := by decide +kernel
theorem ll_i620 : am_ins (am_c am_law) 620 = some (.aload_n 0, 1) := by decide +kernel
theorem ll_i621 : am_ins (am_c am_law) 621 = some (.iload 4, 2) := by decide +kernel
theorem ll_i623 : am_ins (am_c am_law) 623 = some (.iconst 1, 1) := by decide +kernel
theorem ll_i624 : am_ins (am_c am_law) 624 = some (.iadd, 1) := by decide +kernel
theorem ll_i625 : am_ins (am_c am_law) 625 = some (.iaload, 1) := by decide +kernel
theorem ll_i626 : am_ins (am_c am_law) 626 = some (.aload_n 0, 1) := by decide +kernel
theorem ll_i627 : am_ins (am_c am_law) 627 = some (.iload 4, 2) := by decide +kernel
theorem ll_i629 : am_ins (am_c am_law) 629 = some (.iconst 2, 1) := by decide +kernel
theorem ll_i630 : am_ins (am_c am_law) 630 = some (.iadd, 1) := by decide +kernel
theorem ll_i631 : am_ins (am_c am_law) 631 = some (.iaload, 1) := by decide +kernel
theorem ll_i632 : am_ins (am_c am_law) 632 = some (.aload_n 0, 1) := by decide +kernel
theorem ll_i633 : am_ins (am_c am_law) 633 = some (.iload 4, 2) := by decide +kernel
theorem ll_i635 : am_ins (am_c am_law) 635 = some (.iconst 3, 1) := by decide +kernel
theorem ll_i636 : am_ins (am_c am_law) 636 = some (.iadd, 1) := by decide +kernel
theorem ll_i637 : am_ins (am_c am_law) 637 = some (.iaload, 1) := by decide +kernel
theorem ll_i638 : am_ins (am_c am_law) 638 = some (.invokevirtual 125, 3) := by decide +kernel
theorem ll_i641 : am_ins (am_c am_law) 641 = some (.istore 6, 2) := by decide +kernel
theorem ll_i643 : am_ins (am_c am_law) 643 = some (.goto 151, 3) := by decide +kernel
theorem ll_i646 : am_ins (am_c am_law) 646 = some (.aload_n 1, 1) := by decide +kernel
theorem ll_i647 : am_ins (am_c am_law) 647 = some (.aload_n 0, 1) := by decide +kernel
theorem ll_i648 : am_ins (am_c am_law) 648 = some (.iload 4, 2) := by decide +kernel
theorem ll_i650 : am_ins (am_c am_law) 650 = some (.iconst 1, 1) := by decide +kernel
theorem ll_i651 : am_ins (am_c am_law) 651 = some (.iadd, 1) := by decide +kernel
theorem ll_i652 : am_ins (am_c am_law) 652 = some (.iaload, 1) := by decide +kernel
theorem ll_i653 : am_ins (am_c am_law) 653 = some (.aload_n 0, 1) := by decide +kernel
theorem ll_i654 : am_ins (am_c am_law) 654 = some (.iload 4, 2) := by decide +kernel
theorem ll_i656 : am_ins (am_c am_law) 656 = some (.iconst 2, 1) := by decide +kernel
theorem ll_i657 : am_ins (am_c am_law) 657 = some (.iadd, 1) := by decide +kernel
theorem ll_i658 : am_ins (am_c am_law) 658 = some (.iaload, 1) := by decide +kernel
theorem ll_i659 : am_ins (am_c am_law) 659 = some (.aload_n 3, 1) := by decide +kernel
theorem ll_i660 : am_ins (am_c am_law) 660 = some (.invokestatic 126, 3) := by decide +kernel
theorem ll_i663 : am_ins (am_c am_law) 663 = some (.istore 5, 2) := by decide +kernel
theorem ll_i665 : am_ins (am_c am_law) 665 = some (.aload_n 2, 1) := by decide +kernel
theorem ll_i666 : am_ins (am_c am_law) 666 = some (.aload_n 0, 1) := by decide +kernel
theorem ll_i667 : am_ins (am_c am_law) 667 = some (.iload 4, 2) := by decide +kernel
theorem ll_i669 : am_ins (am_c am_law) 669 = some (.iconst 1, 1) := by decide +kernel
theorem ll_i670 : am_ins (am_c am_law) 670 = some (.iadd, 1) := by decide +kernel
theorem ll_i671 : am_ins (am_c am_law) 671 = some (.iaload, 1) := by decide +kernel
theorem ll_i672 : am_ins (am_c am_law) 672 = some (.aload_n 0, 1) := by decide +kernel
theorem ll_i673 : am_ins (am_c am_law) 673 = some (.iload 4, 2) := by decide +kernel
theorem ll_i675 : am_ins (am_c am_law) 675 = some (.iconst 2, 1) := by decide +kernel
theorem ll_i676 : am_ins (am_c am_law) 676 = some (.iadd, 1) := by decide +kernel
theorem ll_i677 : am_ins (am_c am_law) 677 = some (.iaload, 1) := by decide +kernel
theorem ll_i678 : am_ins (am_c am_law) 678 = some (.invokevirtual 128, 3) := by decide +kernel
theorem ll_i681 : am_ins (am_c am_law) 681 = some (.istore 6, 2) := by decide +kernel
theorem ll_i683 : am_ins (am_c am_law) 683 = some (.goto 111, 3) := by decide +kernel
theorem ll_i686 : am_ins (am_c am_law) 686 = some (.aload_n 1, 1) := by decide +kernel
theorem ll_i687 : am_ins (am_c am_law) 687 = some (.aload_n 0, 1) := by decide +kernel
theorem ll_i688 : am_ins (am_c am_law) 688 = some (.iload 4, 2) := by decide +kernel
theorem ll_i690 : am_ins (am_c am_law) 690 = some (.iconst 1, 1) := by decide +kernel
theorem ll_i691 : am_ins (am_c am_law) 691 = some (.iadd, 1) := by decide +kernel
theorem ll_i692 : am_ins (am_c am_law) 692 = some (.iaload, 1) := by decide +kernel
theorem ll_i693 : am_ins (am_c am_law) 693 = some (.aload_n 3, 1) := by decide +kernel
theorem ll_i694 : am_ins (am_c am_law) 694 = some (.invokestatic 129, 3) := by decide +kernel
theorem ll_i697 : am_ins (am_c am_law) 697 = some (.istore 5, 2) := by decide +kernel
theorem ll_i699 : am_ins (am_c am_law) 699 = some (.aload_n 2, 1) := by decide +kernel
theorem ll_i700 : am_ins (am_c am_law) 700 = some (.aload_n 0, 1) := by decide +kernel
theorem ll_i701 : am_ins (am_c am_law) 701 = some (.iload 4, 2) := by decide +kernel
theorem ll_i703 : am_ins (am_c am_law) 703 = some (.iconst 1, 1) := by decide +kernel
theorem ll_i704 : am_ins (am_c am_law) 704 = some (.iadd, 1) := by decide +kernel
theorem ll_i705 : am_ins (am_c am_law) 705 = some (.iaload, 1) := by decide +kernel
theorem ll_i706 : am_ins (am_c am_law) 706 = some (.invokevirtual 131, 3) := by decide +kernel
theorem ll_i709 : am_ins (am_c am_law) 709 = some (.istore 6, 2) := by decide +kernel
theorem ll_i711 : am_ins (am_c am_law) 711 = some (.goto 83, 3) := by decide +kernel
theorem ll_i714 : am_ins (am_c am_law) 714 = some (.aload_n 1, 1) := by decide +kernel
theorem ll_i715 : am_ins (am_c am_law) 715 = some (.aload_n 0, 1) := by decide +kernel
theorem ll_i716 : am_ins (am_c am_law) 716 = some (.iload 4, 2) := by decide +kernel
theorem ll_i718 : am_ins (am_c am_law) 718 = some (.iconst 1, 1) := by decide +kernel
theorem ll_i719 : am_ins (am_c am_law) 719 = some (.iadd, 1) := by decide +kernel
theorem ll_i720 : am_ins (am_c am_law) 720 = some (.iaload, 1) := by decide +kernel
theorem ll_i721 : am_ins (am_c am_law) 721 = some (.aload_n 0, 1) := by decide +kernel
theorem ll_i722 : am_ins (am_c am_law) 722 = some (.iload 4, 2) := by decide +kernel
theorem ll_i724 : am_ins (am_c am_law) 724 = some (.iconst 2, 1) := by decide +kernel
theorem ll_i725 : am_ins (am_c am_law) 725 = some (.iadd, 1) := by decide +kernel
theorem ll_i726 : am_ins (am_c am_law) 726 = some (.iaload, 1) := by decide +kernel
theorem ll_i727 : am_ins (am_c am_law) 727 = some (.aload_n 3, 1) := by decide +kernel
theorem ll_i728 : am_ins (am_c am_law) 728 = some (.invokestatic 132, 3) := by decide +kernel
theorem ll_i731 : am_ins (am_c am_law) 731 = some (.istore 5, 2) := by decide +kernel
theorem ll_i733 : am_ins (am_c am_law) 733 = some (.aload_n 2, 1) := by decide +kernel
theorem ll_i734 : am_ins (am_c am_law) 734 = some (.aload_n 0, 1) := by decide +kernel
theorem ll_i735 : am_ins (am_c am_law) 735 = some (.iload 4, 2) := by decide +kernel
theorem ll_i737 : am_ins (am_c am_law) 737 = some (.iconst 1, 1) := by decide +kernel
theorem ll_i738 : am_ins (am_c am_law) 738 = some (.iadd, 1) := by decide +kernel
theorem ll_i739 : am_ins (am_c am_law) 739 = some (.iaload, 1) := by decide +kernel
theorem ll_i740 : am_ins (am_c am_law) 740 = some (.aload_n 0, 1) := by decide +kernel
theorem ll_i741 : am_ins (am_c am_law) 741 = some (.iload 4, 2) := by decide +kernel
theorem ll_i743 : am_ins (am_c am_law) 743 = some (.iconst 2, 1) := by decide +kernel
theorem ll_i744 : am_ins (am_c am_law) 744 = some (.iadd, 1) := by decide +kernel
theorem ll_i745 : am_ins (am_c am_law) 745 = some (.iaload, 1) := by decide +kernel
theorem ll_i746 : am_ins (am_c am_law) 746 = some (.invokevirtual 134, 3) := by decide +kernel
theorem ll_i749 : am_ins (am_c am_law) 749 = some (.istore 6, 2) := by decide +kernel
theorem ll_i751 : am_ins (am_c am_law) 751 = some (.goto 43, 3) := by decide +kernel
theorem ll_i754 : am_ins (am_c am_law) 754 = some (.aload_n 1, 1) := by decide +kernel
theorem ll_i755 : am_ins (am_c am_law) 755 = some (.aload_n 0, 1) := by decide +kernel
theorem ll_i756 : am_ins (am_c am_law) 756 = some (.iload 4, 2) := by decide +kernel
theorem ll_i758 : am_ins (am_c am_law) 758 = some (.iconst 1, 1) := by decide +kernel
theorem ll_i759 : am_ins (am_c am_law) 759 = some (.iadd, 1) := by decide +kernel
theorem ll_i760 : am_ins (am_c am_law) 760 = some (.iaload, 1) := by decide +kernel
theorem ll_i761 : am_ins (am_c am_law) 761 = some (.aload_n 0, 1) := by decide +kernel
theorem ll_i762 : am_ins (am_c am_law) 762 = some (.iload 4, 2) := by decide +kernel
theorem ll_i764 : am_ins (am_c am_law) 764 = some (.iconst 2, 1) := by decide +kernel
theorem ll_i765 : am_ins (am_c am_law) 765 = some (.iadd, 1) := by decide +kernel
theorem ll_i766 : am_ins (am_c am_law) 766 = some (.iaload, 1) := by decide +kernel
theorem ll_i767 : am_ins (am_c am_law) 767 = some (.aload_n 3, 1) := by decide +kernel
theorem ll_i768 : am_ins (am_c am_law) 768 = some (.invokestatic 135, 3) := by decide +kernel
theorem ll_i771 : am_ins (am_c am_law) 771 = some (.istore 5, 2) := by decide +kernel
theorem ll_i773 : am_ins (am_c am_law) 773 = some (.aload_n 2, 1) := by decide +kernel
theorem ll_i774 : am_ins (am_c am_law) 774 = some (.aload_n 0, 1) := by decide +kernel
theorem ll_i775 : am_ins (am_c am_law) 775 = some (.iload 4, 2) := by decide +kernel
theorem ll_i777 : am_ins (am_c am_law) 777 = some (.iconst 1, 1) := by decide +kernel
theorem ll_i778 : am_ins (am_c am_law) 778 = some (.iadd, 1) := by decide +kernel
theorem ll_i779 : am_ins (am_c am_law) 779 = some (.iaload, 1) := by decide +kernel
theorem ll_i780 : am_ins (am_c am_law) 780 = some (.aload_n 0, 1) := by decide +kernel
theorem ll_i781 : am_ins (am_c am_law) 781 = some (.iload 4, 2) := by decide +kernel
theorem ll_i783 : am_ins (am_c am_law) 783 = some (.iconst 2, 1) := by decide +kernel
theorem ll_i784 : am_ins (am_c am_law) 784 = some (.iadd, 1) := by decide +kernel
theorem ll_i785 : am_ins (am_c am_law) 785 = some (.iaload, 1) := by decide +kernel
theorem ll_i786 : am_ins (am_c am_law) 786 = some (.invokevirtual 137, 3) := by decide +kernel
theorem ll_i789 : am_ins (am_c am_law) 789 = some (.istore 6, 2) := by decide +kernel
theorem ll_i791 : am_ins (am_c am_law) 791 = some (.goto 3, 3) := by decide +kernel
theorem ll_i794 : am_ins (am_c am_law) 794 = some (.iinc 4 4, 3) := by decide +kernel
theorem ll_i797 : am_ins (am_c am_law) 797 = some (.goto (-774), 3) := by decide +kernel
theorem ll_i800 : am_ins (am_c am_law) 800 = some (.iconst 1, 1) := by decide +kernel
theorem ll_i801 : am_ins (am_c am_law) 801 = some (.ireturn, 1) := by decide +kernel
