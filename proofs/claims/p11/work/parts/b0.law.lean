/-! ===== the law's own steps ===== -/
abbrev ll_x (l : Nat) (kn : List (Nat × Int32)) : am_O := (some l, kn, [], [])
def ll_R (xs : am_O) (S : am_S) (Q : am_R → Prop) : Prop := ∃ f r, am_run am_fty am_dfl am_cmp am_lk am_ms am_cx xs f am_law S = some r ∧ Q r
theorem ll_ex {xs : am_O} {pc n k q : Nat} {i : Instr} {lo : List (Option Value)} {st : List Value} {h : am_H} {X : am_X} (hi : am_ins (am_c am_law) pc = some (i, n)) (he : am_exec am_fty am_dfl am_cmp am_lk xs am_law i n pc lo st h k q = some X) : am_step am_fty am_dfl am_cmp am_lk xs am_law (pc, lo, st, h, k, q) = some X := by
  unfold am_step
  show (match am_ins (am_c am_law) pc with
    | some (i, n) => am_exec am_fty am_dfl am_cmp am_lk xs am_law i n pc lo st h k q
    | none => none) = _
  rw [hi]
  exact he
theorem ll_st {xs : am_O} {pc n k q : Nat} {i : Instr} {lo : List (Option Value)} {st : List Value} {h : am_H} {S' : am_S} {Q : am_R → Prop} (hi : am_ins (am_c am_law) pc = some (i, n)) (he : am_exec am_fty am_dfl am_cmp am_lk xs am_law i n pc lo st h k q = some (.inl S')) (hn : ll_R xs S' Q) : ll_R xs (pc, lo, st, h, k, q) Q := by
  obtain ⟨f, r, hr, hQ⟩ := hn
  exact ⟨f + 1, r, ab_run1 (ll_ex hi he) hr, hQ⟩
theorem ll_en {xs : am_O} {pc n k q : Nat} {i : Instr} {lo : List (Option Value)} {st : List Value} {h : am_H} {r : am_R} {Q : am_R → Prop} (hi : am_ins (am_c am_law) pc = some (i, n)) (he : am_exec am_fty am_dfl am_cmp am_lk xs am_law i n pc lo st h k q = some (.inr (.inl r))) (hn : Q r) : ll_R xs (pc, lo, st, h, k, q) Q := ⟨1, r, ab_rune (ll_ex hi he), hn⟩
theorem ll_ca {xs : am_O} {pc n j pc' k q k1 q1 : Nat} {i : Instr} {lo lo' : List (Option Value)} {st st' as : List Value} {h h' : am_H} {mj : am_M} {Q : am_R → Prop} (hi : am_ins (am_c am_law) pc = some (i, n)) (he : am_exec am_fty am_dfl am_cmp am_lk xs am_law i n pc lo st h k q = some (.inr (.inr (j, as, (pc', lo', st', h', k1, q1))))) (hj : am_ms j = some mj) (hroom : am_f mj + 1 ≤ am_f am_law ∧ 8 + (am_L mj + 11) + am_w mj ≤ am_w am_law ∧ as.length ≤ am_L mj) (hc : cl_Rn mj (0, as.map some ++ List.replicate (am_L mj - as.length) none, [], h', 0, 0) (fun r => ∃ v h2 k2 q2, r = (.inl v, h2, k2, q2) ∧ ll_R xs (pc' + 3, lo', v.toList ++ st', h2, k1 + k2, q1 + q2) Q)) : ll_R xs (pc, lo, st, h, k, q) Q := by
  obtain ⟨f1, r1, hr1, v, h2, k2, q2, rfl, f2, r2, hr2, hQ⟩ := hc
  refine ⟨f1 + f2 + 1, r2, ?_, hQ⟩
  have e0 := ll_ex hi he
  have e1 := am_mono (am_run_om f1 (none, xs.2) mj _ _ hr1) (Nat.le_add_right f1 f2)
  have e2 := am_mono hr2 (Nat.le_add_left f2 f1)
  unfold am_run
  rw [e0]
  dsimp only
  rw [hj]
  dsimp only
  rw [if_pos hroom, e1]
  exact e2
theorem ll_iv {xs : am_O} {pc ix j b k q x : Nat} {d : Int} {lo : List (Option Value)} {r as : List Value} {h : am_H} {mj : am_M} {cc : am_C} {Q : am_R → Prop} (hi : am_ins (am_c am_law) pc = some (.invokevirtual ix, 3)) (hl : am_lk 10 ix = some (20, j, b, d)) (hcell : h[x]? = some cc) (hcd : (cc.1 : Int) = d) (hb : as.length = b) (ho : am_one as = true) (hr : am_cat r ≤ 8) (hj : am_ms j = some mj) (hroom : am_f mj + 1 ≤ am_f am_law ∧ 8 + (am_L mj + 11) + am_w mj ≤ am_w am_law ∧ as.length + 1 ≤ am_L mj) (hc : cl_Rn mj (0, (.ref x :: as).map some ++ List.replicate (am_L mj - (as.length + 1)) none, [], h, 0, 0) (fun r' => ∃ v h' k' q', r' = (.inl v, h', k', q') ∧ ll_R xs (pc + 3, lo, v.toList ++ r, h', k + k', q + q') Q)) : ll_R xs (pc, lo, as.reverse ++ .ref x :: r, h, k, q) Q := by
  have e1 : (as.reverse ++ .ref x :: r).take b = as.reverse := by
    rw [List.take_append_of_le_length (by rw [List.length_reverse]; omega), List.take_of_length_le (by rw [List.length_reverse]; omega)]
  have e2 : (as.reverse ++ .ref x :: r).drop b = .ref x :: r := by
    rw [List.drop_append_of_le_length (by rw [List.length_reverse]; omega), List.drop_of_length_le (by rw [List.length_reverse]; omega)]
    rfl
  have hx' : am_ask (20, j, b, d) 2 pc lo (as.reverse ++ .ref x :: r) h k q = some (.inr (.inr (j, .ref x :: as, (pc, lo, r, h, k, q)))) := by
    have := ab_ask2 (kk := (20, j, b, d)) (rc := 2) (y := x) (r := r) (st := as.reverse ++ .ref x :: r) (pc := pc) (lo' := lo) (k := k) (q := q) (by decide) (by show ((as.reverse ++ .ref x :: r).take b).reverse.length = b; rw [e1, List.reverse_reverse]; exact hb) e2 hr (by show am_one ((as.reverse ++ .ref x :: r).take b).reverse = true; rw [e1, List.reverse_reverse]; exact ho) hcell (Or.inr hcd)
    rw [this]
    show some (Sum.inr (Sum.inr (j, .ref x :: ((as.reverse ++ .ref x :: r).take b).reverse, (pc, lo, r, h, k, q)))) = _
    rw [e1, List.reverse_reverse]
  refine ll_ca (as := .ref x :: as) hi ?_ hj hroom hc
  have hl : am_lk (am_o am_law) ix = some (20, j, b, d) := hl
  show (if (3 : Nat) = 3 then (match am_lk (am_o am_law) ix with
    | some kk => if kk.1 = 20 ∨ kk.1 = 21 then am_ask kk 2 pc lo (as.reverse ++ .ref x :: r) h k q else none
    | none => none) else none) = _
  rw [if_pos rfl, hl]
  show (if (20 : Nat) = 20 ∨ (20 : Nat) = 21 then am_ask (20, j, b, d) 2 pc lo (as.reverse ++ .ref x :: r) h k q else none) = _
  rw [if_pos (Or.inl rfl)]
  exact hx'
theorem ll_arg {l : Nat} {kn : List (Nat × Int32)} {p k q : Nat} {c : Int} {lo : List (Option Value)} {st : List Value} {h : am_H} {zi x : Int32} {Q : am_R → Prop} (h0 : lo[0]? = some (some (.retAddr 0))) (h4 : lo[4]? = some (some (.int zi))) (i0 : am_ins (am_c am_law) p = some (.aload_n 0, 1)) (i1 : am_ins (am_c am_law) (p + 1) = some (.iload 4, 2)) (i3 : am_ins (am_c am_law) (p + 3) = some (.iconst c, 1)) (i4 : am_ins (am_c am_law) (p + 4) = some (.iadd, 1)) (i5 : am_ins (am_c am_law) (p + 5) = some (.iaload, 1)) (hz : ¬ (zi + Int32.ofInt c < 0 ∨ l ≤ (zi + Int32.ofInt c).toNatClampNeg)) (hk : am_kn kn (zi + Int32.ofInt c).toNatClampNeg = some x) (hn : ll_R (ll_x l kn) (p + 6, lo, .int x :: st, h, k, q) Q) : ll_R (ll_x l kn) (p, lo, st, h, k, q) Q := by
  refine ll_st i0 (S' := (p + 1, lo, .retAddr 0 :: st, h, k, q)) ?_ ?_
  · show am_lod 1 0 1 true p lo st h k q = _
    unfold am_lod
    rw [if_pos rfl, h0]
    rfl
  refine ll_st i1 (S' := (p + 3, lo, .int zi :: .retAddr 0 :: st, h, k, q)) ?_ ?_
  · show am_lod 2 4 2 false (p + 1) lo (.retAddr 0 :: st) h k q = _
    unfold am_lod
    rw [if_pos rfl, h4]
    rfl
  refine ll_st i3 (S' := (p + 4, lo, .int (Int32.ofInt c) :: .int zi :: .retAddr 0 :: st, h, k, q)) rfl ?_
  refine ll_st i4 (S' := (p + 5, lo, .int (zi + Int32.ofInt c) :: .retAddr 0 :: st, h, k, q)) rfl ?_
  refine ll_st i5 (S' := (p + 6, lo, .int x :: st, h, k, q)) ?_ hn
  show (if (1 : Nat) = 1 then (if zi + Int32.ofInt c < 0 ∨ l ≤ (zi + Int32.ofInt c).toNatClampNeg then none else (match am_kn kn (zi + Int32.ofInt c).toNatClampNeg with
    | some x => am_go (p + 5 + 1, lo, .int x :: st, h, k, q)
    | none => am_go (p + 5 + 1, lo, .retAddr ((zi + Int32.ofInt c).toNatClampNeg + 1) :: st, h, k, q))) else none) = _
  rw [if_pos rfl, if_neg hz, hk]
  rfl
theorem ll_bool {xs : am_O} {p k q : Nat} {lo : List (Option Value)} {st : List Value} {h : am_H} {x : Int32} {Q : am_R → Prop} (i0 : am_ins (am_c am_law) p = some (.ifCond .eq 7, 3)) (i3 : am_ins (am_c am_law) (p + 3) = some (.iconst 1, 1)) (i4 : am_ins (am_c am_law) (p + 4) = some (.goto 4, 3)) (i7 : am_ins (am_c am_law) (p + 7) = some (.iconst 0, 1)) (hn : ∀ b : Int32, (b = 0 ∨ b = 1) → (b = if x = 0 then 0 else 1) → ll_R xs (p + 8, lo, .int b :: st, h, k, q) Q) : ll_R xs (p, lo, .int x :: st, h, k, q) Q := by
  by_cases hx : x = 0
  · refine ll_st i0 (S' := (p + 7, lo, st, h, k, q)) ?_ ?_
    · show am_br (decide (x = 0)) p 7 lo st h k q = _
      rw [decide_eq_true hx]
      rfl
    refine ll_st i7 (S' := (p + 8, lo, .int 0 :: st, h, k, q)) rfl ?_
    exact hn 0 (Or.inl rfl) (by rw [if_pos hx])
  · refine ll_st i0 (S' := (p + 3, lo, st, h, k, q)) ?_ ?_
    · show am_br (decide (x = 0)) p 7 lo st h k q = _
      rw [decide_eq_false hx]
      rfl
    refine ll_st i3 (S' := (p + 4, lo, .int 1 :: st, h, k, q)) rfl ?_
    refine ll_st i4 (S' := (p + 8, lo, .int 1 :: st, h, k, q)) rfl ?_
    exact hn 1 (Or.inr rfl) (by rw [if_neg hx])
abbrev ll_lo (u : Nat → Nat) (zi : Int32) (o5 o6 : Option Value) : List (Option Value) := [some (.retAddr 0), some (.ref (u 1)), some (.ref (u 40)), some (.ref (u 39)), some (.int zi), o5, o6]
/-- arguments of contracts -/
theorem ll_g1 {τ u : Nat → Nat} (hut : ∀ k, w_uq k = true → τ (u k) = k) : ab_g τ 2147483648 (kc_rho u 0) (1, 16, 0) (.ref (u 1)) := ⟨rfl, hut 1 (by decide +kernel), by decide⟩
theorem ll_g40 {τ u : Nat → Nat} (hut : ∀ k, w_uq k = true → τ (u k) = k) : ab_g τ 2147483648 (kc_rho u 0) (1, 640, 0) (.ref (u 40)) := ⟨rfl, hut 40 (by decide +kernel), by decide⟩
theorem ll_g39 {τ u : Nat → Nat} (hut : ∀ k, w_uq k = true → τ (u k) = k) : ab_g τ 2147483648 (kc_rho u 0) (1, 624, 0) (.ref (u 39)) := ⟨rfl, hut 39 (by decide +kernel), by decide⟩
theorem ll_gt {τ u : Nat → Nat} {z : Int32} : ab_g τ 2147483648 (kc_rho u 0) ab_top (.int z) := ⟨z, rfl, Nat.zero_le _, by have := ab_b_lt z; show ab_b z ≤ 4294967295; omega⟩
theorem ll_gb {τ u : Nat → Nat} {z : Int32} (h : z = 0 ∨ z = 1) : ab_g τ 2147483648 (kc_rho u 0) (w_r 0 1) (.int z) := by
  refine ⟨z, rfl, ?_, ?_⟩
  · show Nat.add 2147483648 0 ≤ ab_b z
    rcases h with rfl | rfl
    · rw [ab_b_0]; decide
    · rw [show ab_b 1 = 2147483649 by decide]; decide
  · show ab_b z ≤ Nat.add 2147483648 1
    rcases h with rfl | rfl
    · rw [ab_b_0]; decide
    · rw [show ab_b 1 = 2147483649 by decide]; decide
/-- what holds before the call of number N -/
def ll_I (u : Nat → Nat) (N : Nat) (h : am_H) (k q : Nat) : Prop := ii_I u h ∧ ∃ τ mc T, mc < 9 ∧ ab_U w_uq τ u ∧ (∀ k, w_uq k = true → τ (u k) = k) ∧ (2147483648 ≤ T ∧ T ≤ 2147483648 + 60 * N) ∧ j_J τ u mc T T h ∧ k ≤ 1000 + 8 * N ∧ q ≤ 5000 + 60 * N
theorem ll_c1 {τ u : Nat → Nat} {mc Tc Tm : Nat} {h : am_H} (hut : ∀ k, w_uq k = true → τ (u k) = k) (hJ : j_J τ u mc Tc Tm h) : ∃ vs, h[u 1]? = some (0, vs) := by
  have e := hut 1 (by decide +kernel)
  obtain ⟨vs, h1, -, -⟩ := hJ.1 (u 1) (by rw [e]; decide)
  rw [e] at h1
  exact ⟨vs, h1⟩
theorem ll_c40 {τ u : Nat → Nat} {mc Tc Tm : Nat} {h : am_H} (hut : ∀ k, w_uq k = true → τ (u k) = k) (hJ : j_J τ u mc Tc Tm h) : ∃ vs, h[u 40]? = some (9, vs) := by
  have e := hut 40 (by decide +kernel)
  obtain ⟨vs, h1, -, -⟩ := hJ.1 (u 40) (by rw [e]; decide)
  rw [e] at h1
  exact ⟨vs, h1⟩
theorem ll_ch {τ u : Nat → Nat} {mc Tc Tm : Nat} {zt za : Int32} {h : am_H} (hut : ∀ k, w_uq k = true → τ (u k) = k) (hJ : j_H τ u mc Tc Tm zt za h) : ∃ vs, h[u 40]? = some (9, vs) := by
  have e := hut 40 (by decide +kernel)
  obtain ⟨vs, h1, -, -⟩ := hJ.1 (u 40) (by rw [e]; decide)
  rw [e] at h1
  exact ⟨vs, h1⟩
/-- the script's ints, as they are read -/
def ll_a (l : Nat) (kn : List (Nat × Int32)) (zi : Int32) (x : Nat → Int32) : Prop := ∀ c : Nat, c < 4 → ¬ (zi + Int32.ofInt c < 0 ∨ l ≤ (zi + Int32.ofInt c).toNatClampNeg) ∧ am_kn kn (zi + Int32.ofInt c).toNatClampNeg = some (x c)
theorem ll_i0 : am_ins (am_c am_law) 0 = some (.new 8, 3) := by decide +kernel
theorem ll_i3 : am_ins (am_c am_law) 3 = some (.dup, 1) := by decide +kernel
theorem ll_i4 : am_ins (am_c am_law) 4 = some (.invokespecial 63, 3) := by decide +kernel
theorem ll_i7 : am_ins (am_c am_law) 7 = some (.astore_n 1, 1) := by decide +kernel
theorem ll_i8 : am_ins (am_c am_law) 8 = some (.new 64, 3) := by decide +kernel
theorem ll_i11 : am_ins (am_c am_law) 11 = some (.dup, 1) := by decide +kernel
theorem ll_i12 : am_ins (am_c am_law) 12 = some (.invokespecial 66, 3) := by decide +kernel
theorem ll_i15 : am_ins (am_c am_law) 15 = some (.astore_n 2, 1) := by decide +kernel
theorem ll_i16 : am_ins (am_c am_law) 16 = some (.iconst 1, 1) := by decide +kernel
theorem ll_i17 : am_ins (am_c am_law) 17 = some (.newarray .long, 2) := by decide +kernel
theorem ll_i19 : am_ins (am_c am_law) 19 = some (.astore_n 3, 1) := by decide +kernel
theorem ll_i20 : am_ins (am_c am_law) 20 = some (.iconst 0, 1) := by decide +kernel
theorem ll_i21 : am_ins (am_c am_law) 21 = some (.istore 4, 2) := by decide +kernel
theorem ll_i23 : am_ins (am_c am_law) 23 = some (.iload 4, 2) := by decide +kernel
theorem ll_i25 : am_ins (am_c am_law) 25 = some (.aload_n 0, 1) := by decide +kernel
theorem ll_i26 : am_ins (am_c am_law) 26 = some (.arraylength, 1) := by decide +kernel
theorem ll_i27 : am_ins (am_c am_law) 27 = some (.iconst 4, 1) := by decide +kernel
theorem ll_i28 : am_ins (am_c am_law) 28 = some (.isub, 1) := by decide +kernel
theorem ll_i29 : am_ins (am_c am_law) 29 = some (.if_icmp .gt 788, 3) := by decide +kernel
theorem ll_i32 : am_ins (am_c am_law) 32 = some (.aload_n 0, 1) := by decide +kernel
theorem ll_i33 : am_ins (am_c am_law) 33 = some (.iload 4, 2) := by decide +kernel
theorem ll_i35 : am_ins (am_c am_law) 35 = some (.iaload, 1) := by decide +kernel
theorem ll_i36 : am_ins (am_c am_law) 36 = some (.bipush 31, 2) := by decide +kernel
theorem ll_i38 : am_ins (am_c am_law) 38 = some (.iand, 1) := by decide +kernel
theorem ll_i39 : am_ins (am_c am_law) 39 = some (.tableswitch 772 0 17 #[85, 137, 174, 223, 276, 317, 345, 373, 386, 426, 506, 519, 532, 572, 624, 664, 692, 732], 85) := by decide +kernel
theorem ll_i124 : am_ins (am_c am_law) 124 = some (.aload_n 1, 1) := by decide +kernel
theorem ll_i125 : am_ins (am_c am_law) 125 = some (.aload_n 0, 1) := by decide +kernel
theorem ll_i126 : am_ins (am_c am_law) 126 = some (.iload 4, 2) := by decide +kernel
theorem ll_i128 : am_ins (am_c am_law) 128 = some (.iconst 1, 1) := by decide +kernel
theorem ll_i129 : am_ins (am_c am_law) 129 = some (.iadd, 1) := by decide +kernel
theorem ll_i130 : am_ins (am_c am_law) 130 = some (.iaload, 1) := by decide +kernel
theorem ll_i131 : am_ins (am_c am_law) 131 = some (.aload_n 0, 1) := by decide +kernel
theorem ll_i132 : am_ins (am_c am_law) 132 = some (.iload 4, 2) := by decide +kernel
theorem ll_i134 : am_ins (am_c am_law) 134 = some (.iconst 2, 1) := by decide +kernel
theorem ll_i135 : am_ins (am_c am_law) 135 = some (.iadd, 1) := by decide +kernel
theorem ll_i136 : am_ins (am_c am_law) 136 = some (.iaload, 1) := by decide +kernel
theorem ll_i137 : am_ins (am_c am_law) 137 = some (.aload_n 0, 1) := by decide +kernel
theorem ll_i138 : am_ins (am_c am_law) 138 = some (.iload 4, 2) := by decide +kernel
theorem ll_i140 : am_ins (am_c am_law) 140 = some (.iconst 3, 1) := by decide +kernel
theorem ll_i141 : am_ins (am_c am_law) 141 = some (.iadd, 1) := by decide +kernel
theorem ll_i142 : am_ins (am_c am_law) 142 = some (.iaload, 1) := by decide +kernel
theorem ll_i143 : am_ins (am_c am_law) 143 = some (.aload_n 3, 1) := by decide +kernel
theorem ll_i144 : am_ins (am_c am_law) 144 = some (.invokestatic 67, 3) := by decide +kernel
theorem ll_i147 : am_ins (am_c am_law) 147 = some (.istore 5, 2) := by decide +kernel
theorem ll_i149 : am_ins (am_c am_law) 149 = some (.aload_n 2, 1) := by decide +kernel
theorem ll_i150 : am_ins (am_c am_law) 150 = some (.aload_n 0, 1) := by decide +kernel
theorem ll_i151 : am_ins (am_c am_law) 151 = some (.iload 4, 2) := by decide +kernel
theorem ll_i153 : am_ins (am_c am_law) 153 = some (.iconst 1, 1) := by decide +kernel
theorem ll_i154 : am_ins (am_c am_law) 154 = some (.iadd, 1) := by decide +kernel
theorem ll_i155 : am_ins (am_c am_law) 155 = some (.iaload, 1) := by decide +kernel
theorem ll_i156 : am_ins (am_c am_law) 156 = some (.aload_n 0, 1) := by decide +kernel
theorem ll_i157 : am_ins (am_c am_law) 157 = some (.iload 4, 2) := by decide +kernel
theorem ll_i159 : am_ins (am_c am_law) 159 = some (.iconst 2, 1) := by decide +kernel
theorem ll_i160 : am_ins (am_c am_law) 160 = some (.iadd, 1) := by decide +kernel
theorem ll_i161 : am_ins (am_c am_law) 161 = some (.iaload, 1) := by decide +kernel
theorem ll_i162 : am_ins (am_c am_law) 162 = some (.aload_n 0, 1) := by decide +kernel
theorem ll_i163 : am_ins (am_c am_law) 163 = some (.iload 4, 2) := by decide +kernel
theorem ll_i165 : am_ins (am_c am_law) 165 = some (.iconst 3, 1) := by decide +kernel
theorem ll_i166 : am_ins (am_c am_law) 166 = some (.iadd, 1) := by decide +kernel
theorem ll_i167 : am_ins (am_c am_law) 167 = some (.iaload, 1) := by decide +kernel
theorem ll_i168 : am_ins (am_c am_law) 168 = some (.invokevirtual 72, 3) := by decide +kernel
theorem ll_i171 : am_ins (am_c am_law) 171 = some (.istore 6, 2) := by decide +kernel
theorem ll_i173 : am_ins (am_c am_law) 173 = some (.goto 638, 3) := by decide +kernel
theorem ll_i176 : am_ins (am_c am_law) 176 = some (.aload_n 1, 1) := by decide +kernel
theorem ll_i177 : am_ins (am_c am_law) 177 = some (.aload_n 0, 1) := by decide +kernel
theorem ll_i178 : am_ins (am_c am_law) 178 = some (.iload 4, 2) := by decide +kernel
theorem ll_i180 : am_ins (am_c am_law) 180 = some (.iconst 1, 1) := by decide +kernel
theorem ll_i181 : am_ins (am_c am_law) 181 = some (.iadd, 1) := by decide +kernel
theorem ll_i182 : am_ins (am_c am_law) 182 = some (.iaload, 1) := by decide +kernel
theorem ll_i183 : am_ins (am_c am_law) 183 = some (.aload_n 0, 1) := by decide +kernel
theorem ll_i184 : am_ins (am_c am_law) 184 = some (.iload 4, 2) := by decide +kernel
theorem ll_i186 : am_ins (am_c am_law) 186 = some (.iconst 2, 1) := by decide +kernel
theorem ll_i187 : am_ins (am_c am_law) 187 = some (.iadd, 1) := by decide +kernel
theorem ll_i188 : am_ins (am_c am_law) 188 = some (.iaload, 1) := by decide +kernel
theorem ll_i189 : am_ins (am_c am_law) 189 = some (.invokestatic 73, 3) := by decide +kernel
theorem ll_i192 : am_ins (am_c am_law) 192 = some (.istore 5, 2) := by decide +kernel
theorem ll_i194 : am_ins (am_c am_law) 194 = some (.aload_n 2, 1) := by decide +kernel
theorem ll_i195 : am_ins (am_c am_law) 195 = some (.aload_n 0, 1) := by decide +kernel
theorem ll_i196 : am_ins (am_c am_law) 196 = some (.iload 4, 2) := by decide +kernel
theorem ll_i198 : am_ins (am_c am_law) 198 = some (.iconst 1, 1) := by decide +kernel
theorem ll_i199 : am_ins (am_c am_law) 199 = some (.iadd, 1) := by decide +kernel
theorem ll_i200 : am_ins (am_c am_law) 200 = some (.iaload, 1) := by decide +kernel
theorem ll_i201 : am_ins (am_c am_law) 201 = some (.aload_n 0, 1) := by decide +kernel
theorem ll_i202 : am_ins (am_c am_law) 202 = some (.iload 4, 2) := by decide +kernel
theorem ll_i204 : am_ins (am_c am_law) 204 = some (.iconst 2, 1) := by decide +kernel
theorem ll_i205 : am_ins (am_c am_law) 205 = some (.iadd, 1) := by decide +kernel
theorem ll_i206 : am_ins (am_c am_law) 206 = some (.iaload, 1) := by decide +kernel
theorem ll_i207 : am_ins (am_c am_law) 207 = some (.invokevirtual 76, 3) := by decide +kernel
theorem ll_i210 : am_ins (am_c am_law) 210 = some (.goto 601, 3) := by decide +kernel
theorem ll_i213 : am_ins (am_c am_law) 213 = some (.aload_n 1, 1) := by decide +kernel
theorem ll_i214 : am_ins (am_c am_law) 214 = some (.aload_n 0, 1) := by decide +kernel
theorem ll_i215 : am_ins (am_c am_law) 215 = some (.iload 4, 2) := by decide +kernel
theorem ll_i217 : am_ins (am_c am_law) 217 = some (.iconst 1, 1) := by decide +kernel
theorem ll_i218 : am_ins (am_c am_law) 218 = some (.iadd, 1) := by decide +kernel
theorem ll_i219 : am_ins (am_c am_law) 219 = some (.iaload, 1) := by decide +kernel
theorem ll_i220 : am_ins (am_c am_law) 220 = some (.aload_n 0, 1) := by decide +kernel
theorem ll_i221 : am_ins (am_c am_law) 221 = some (.iload 4, 2) := by decide +kernel
theorem ll_i223 : am_ins (am_c am_law) 223 = some (.iconst 2, 1) := by decide +kernel
theorem ll_i224 : am_ins (am_c am_law) 224 = some (.iadd, 1) := by decide +kernel
theorem ll_i225 : am_ins (am_c am_law) 225 = some (.iaload, 1) := by decide +kernel
theorem ll_i226 : am_ins (am_c am_law) 226 = some (.aload_n 0, 1) := by decide +kernel
theorem ll_i227 : am_ins (am_c am_law) 227 = some (.iload 4, 2) := by decide +kernel
theorem ll_i229 : am_ins (am_c am_law) 229 = some (.iconst 3, 1) := by decide +kernel
theorem ll_i230 : am_ins (am_c am_law) 230 = some (.iadd, 1) := by decide +kernel
theorem ll_i231 : am_ins (am_c am_law) 231 = some (.iaload, 1) := by decide +kernel
theorem ll_i232 : am_ins (am_c am_law) 232 = some (.invokestatic 77, 3) := by decide +kernel
theorem ll_i235 : am_ins (am_c am_law) 235 = some (.istore 5, 2) := by decide +kernel
theorem ll_i237 : am_ins (am_c am_law) 237 = some (.aload_n 2, 1) := by decide +kernel
theorem ll_i238 : am_ins (am_c am_law) 238 = some (.aload_n 0, 1) := by decide +kernel
theorem ll_i239 : am_ins (am_c am_law) 239 = some (.iload 4, 2) := by decide +kernel
theorem ll_i241 : am_ins (am_c am_law) 241 = some (.iconst 1, 1) := by decide +kernel
theorem ll_i242 : am_ins (am_c am_law) 242 = some (.iadd, 1) := by decide +kernel
theorem ll_i243 : am_ins (am_c am_law) 243 = some (.iaload, 1) := by decide +kernel
theorem ll_i244 : am_ins (am_c am_law) 244 = some (.aload_n 0, 1) := by decide +kernel
theorem ll_i245 : am_ins (am_c am_law) 245 = some (.iload 4, 2) := by decide +kernel
theorem ll_i247 : am_ins (am_c am_law) 247 = some (.iconst 2, 1) := by decide +kernel
theorem ll_i248 : am_ins (am_c am_law) 248 = some (.iadd, 1) := by decide +kernel
theorem ll_i249 : am_ins (am_c am_law) 249 = some (.iaload, 1) := by decide +kernel
theorem ll_i250 : am_ins (am_c am_law) 250 = some (.aload_n 0, 1) := by decide +kernel
theorem ll_i251 : am_ins (am_c am_law) 251 = some (.iload 4, 2) := by decide +kernel
theorem ll_i253 : am_ins (am_c am_law) 253 = some (.iconst 3, 1) := by decide +kernel
theorem ll_i254 : am_ins (am_c am_law) 254 = some (.iadd, 1) := by decide +kernel
theorem ll_i255 : am_ins (am_c am_law) 255 = some (.iaload, 1) := by decide +kernel
theorem ll_i256 : am_ins (am_c am_law) 256 = some (.invokevirtual 80, 3) := by decide +kernel
theorem ll_i259 : am_ins (am_c am_law) 259 = some (.goto 552, 3) := by decide +kernel
theorem ll_i262 : am_ins (am_c am_law) 262 = some (.aload_n 1, 1) := by decide +kernel
theorem ll_i263 : am_ins (am_c am_law) 263 = some (.aload_n 0, 1) := by decide +kernel
theorem ll_i264 : am_ins (am_c am_law) 264 = some (.iload 4, 2) := by decide +kernel
theorem ll_i266 : am_ins (am_c am_law) 266 = some (.iconst 1, 1) := by decide +kernel
theorem ll_i267 : am_ins (am_c am_law) 267 = some (.iadd, 1) := by decide +kernel
theorem ll_i268 : am_ins (am_c am_law) 268 = some (.iaload, 1) := by decide +kernel
theorem ll_i269 : am_ins (am_c am_law) 269 = some (.aload_n 0, 1) := by decide +kernel
theorem ll_i270 : am_ins (am_c am_law) 270 = some (.iload 4, 2) := by decide +kernel
theorem ll_i272 : am_ins (am_c am_law) 272 = some (.iconst 2, 1) := by decide +kernel
theorem ll_i273 : am_ins (am_c am_law) 273 = some (.iadd, 1) := by decide +kernel
theorem ll_i274 : am_ins (am_c am_law) 274 = some (.iaload, 1) := by decide +kernel
theorem ll_i275 : am_ins (am_c am_law) 275 = some (.ifCond .eq 7, 3) := by decide +kernel
theorem ll_i278 : am_ins (am_c am_law) 278 = some (.iconst 1, 1) := by decide +kernel
theorem ll_i279 : am_ins (am_c am_law) 279 = some (.goto 4, 3) := by decide +kernel
theorem ll_i282 : am_ins (am_c am_law) 282 = some (.iconst 0, 1) := by decide +kernel
theorem ll_i283 : am_ins (am_c am_law) 283 = some (.invokestatic 81, 3) := by decide +kernel
theorem ll_i286 : am_ins (am_c am_law) 286 = some (.istore 5, 2) := by decide +kernel
theorem ll_i288 : am_ins (am_c am_law) 288 = some (.aload_n 2, 1) := by decide +kernel
theorem ll_i289 : am_ins (am_c am_law) 289 = some (.aload_n 0, 1) := by decide +kernel
theorem ll_i290 : am_ins (am_c am_law) 290 = some (.iload 4, 2) := by decide +kernel
theorem ll_i292 : am_ins (am_c am_law) 292 = some (.iconst 1, 1) := by decide +kernel
theorem ll_i293 : am_ins (am_c am_law) 293 = some (.iadd, 1) := by decide +kernel
theorem ll_i294 : am_ins (am_c am_law) 294 = some (.iaload, 1) := by decide +kernel
theorem ll_i295 : am_ins (am_c am_law) 295 = some (.aload_n 0, 1) := by decide +kernel
theorem ll_i296 : am_ins (am_c am_law) 296 = some (.iload 4, 2) := by decide +kernel
theorem ll_i298 : am_ins (am_c am_law) 298 = some (.iconst 2, 1) := by decide +kernel
theorem ll_i299 : am_ins (am_c am_law) 299 = some (.iadd, 1) := by decide +kernel
theorem ll_i300 : am_ins (am_c am_law) 300 = some (.iaload, 1) := by decide +kernel
theorem ll_i301 : am_ins (am_c am_law) 301 = some (.ifCond .eq 7, 3) := by decide +kernel
theorem ll_i304 : am_ins (am_c am_law) 304 = some (.iconst 1, 1) := by decide +kernel
theorem ll_i305 : am_ins (am_c am_law) 305 = some (.goto 4, 3) := by decide +kernel
theorem ll_i308 : am_ins (am_c am_law) 308 = some (.iconst 0, 1) := by decide +kernel
theorem ll_i309 : am_ins (am_c am_law) 309 = some (.invokevirtual 84, 3) := by decide +kernel
theorem ll_i312 : am_ins (am_c am_law) 312 = some (.goto 499, 3) := by decide +kernel
theorem ll_i315 : am_ins (am_c am_law) 315 = some (.aload_n 1, 1) := by decide +kernel
theorem ll_i316 : am_ins (am_c am_law) 316 = some (.aload_n 0, 1) := by decide +kernel
theorem ll_i317 : am_ins (am_c am_law) 317 = some (.iload 4, 2) := by decide +kernel
theorem ll_i319 : am_ins (am_c am_law) 319 = some (.iconst 1, 1) := by decide +kernel
theorem ll_i320 : am_ins (am_c am_law) 320 = some (.iadd, 1) := by decide +kernel
theorem ll_i321 : am_ins (am_c am_law) 321 = some (.iaload, 1) := by decide +kernel
theorem ll_i322 : am_ins (am_c am_law) 322 = some (.ifCond .eq 7, 3) := by decide +kernel
theorem ll_i325 : am_ins (am_c am_law) 325 = some (.iconst 1, 1) := by decide +kernel
theorem ll_i326 : am_ins (am_c am_law) 326 = some (.goto 4, 3) := by decide +kernel
theorem ll_i329 : am_ins (am_c am_law) 329 = some (.iconst 0, 1) := by decide +kernel
theorem ll_i330 : am_ins (am_c am_law) 330 = some (.invokevirtual 85, 3) := by decide +kernel
theorem ll_i333 : am_ins (am_c am_law) 333 = some (.pop, 1) := by decide +kernel
theorem ll_i334 : am_ins (am_c am_law) 334 = some (.aload_n 2, 1) := by decide +kernel
theorem ll_i335 : am_ins (am_c am_law) 335 = some (.aload_n 0, 1) := by decide +kernel
theorem ll_i336 : am_ins (am_c am_law) 336 = some (.iload 4, 2) := by decide +kernel
theorem ll_i338 : am_ins (am_c am_law) 338 = some (.iconst 1, 1) := by decide +kernel
theorem ll_i339 : am_ins (am_c am_law) 339 = some (.iadd, 1) := by decide +kernel
theorem ll_i340 : am_ins (am_c am_law) 340 = some (.iaload, 1) := by decide +kernel
theorem ll_i341 : am_ins (am_c am_law) 341 = some (.ifCond .eq 7, 3) := by decide +kernel
theorem ll_i344 : am_ins (am_c am_law) 344 = some (.iconst 1, 1) := by decide +kernel
theorem ll_i345 : am_ins (am_c am_law) 345 = some (.goto 4, 3) := by decide +kernel
theorem ll_i348 : am_ins (am_c am_law) 348 = some (.iconst 0, 1) := by decide +kernel
theorem ll_i349 : am_ins (am_c am_law) 349 = some (.invokevirtual 89, 3) := by decide +kernel
theorem ll_i352 : am_ins (am_c am_law) 352 = some (.pop, 1) := by decide +kernel
theorem ll_i353 : am_ins (am_c am_law) 353 = some (.goto 458, 3) := by decide +kernel
theorem ll_i356 : am_ins (am_c am_law) 356 = some (.aload_n 1, 1) := by decide +kernel
theorem ll_i357 : am_ins (am_c am_law) 357 = some (.aload_n 0, 1) := by decide +kernel
theorem ll_i358 : am_ins (am_c am_law) 358 = some (.iload 4, 2) := by decide +kernel
theorem ll_i360 : am_ins (am_c am_law) 360 = some (.iconst 1, 1) := by decide +kernel
theorem ll_i361 : am_ins (am_c am_law) 361 = some (.iadd, 1) := by decide +kernel
theorem ll_i362 : am_ins (am_c am_law) 362 = some (.iaload, 1) := by decide +kernel
theorem ll_i363 : am_ins (am_c am_law) 363 = some (.aload_n 3, 1) := by decide +kernel
theorem ll_i364 : am_ins (am_c am_law) 364 = some (.invokestatic 90, 3) := by decide +kernel
theorem ll_i367 : am_ins (am_c am_law) 367 = some (.istore 5, 2) := by decide +kernel
theorem ll_i369 : am_ins (am_c am_law) 369 = some (.aload_n 2, 1) := by decide +kernel
theorem ll_i370 : am_ins (am_c am_law) 370 = some (.aload_n 0, 1) := by decide +kernel
theorem ll_i371 : am_ins (am_c am_law) 371 = some (.iload 4, 2) := by decide +kernel
theorem ll_i373 : am_ins (am_c am_law) 373 = some (.iconst 1, 1) := by decide +kernel
theorem ll_i374 : am_ins (am_c am_law) 374 = some (.iadd, 1) := by decide +kernel
theorem ll_i375 : am_ins (am_c am_law) 375 = some (.iaload, 1) := by decide +kernel
theorem ll_i376 : am_ins (am_c am_law) 376 = some (.invokevirtual 93, 3) := by decide +kernel
theorem ll_i379 : am_ins (am_c am_law) 379 = some (.istore 6, 2) := by decide +kernel
theorem ll_i381 : am_ins (am_c am_law) 381 = some (.goto 430, 3) := by decide +kernel
theorem ll_i384 : am_ins (am_c am_law) 384 = some (.aload_n 1, 1) := by decide +kernel
theorem ll_i385 : am_ins (am_c am_law) 385 = some (.aload_n 0, 1) := by decide +kernel
theorem ll_i386 : am_ins (am_c am_law) 386 = some (.iload 4, 2) := by decide +kernel
theorem ll_i388 : am_ins (am_c am_law) 388 = some (.iconst 1, 1) := by decide +kernel
theorem ll_i389 : am_ins (am_c am_law) 389 = some (.iadd, 1) := by decide +kernel
theorem ll_i390 : am_ins (am_c am_law) 390 = some (.iaload, 1) := by decide +kernel
theorem ll_i391 : am_ins (am_c am_law) 391 = some (.aload_n 3, 1) := by decide +kernel
theorem ll_i392 : am_ins (am_c am_law) 392 = some (.invokestatic 94, 3) := by decide +kernel
theorem ll_i395 : am_ins (am_c am_law) 395 = some (.istore 5, 2) := by decide +kernel
theorem ll_i397 : am_ins (am_c am_law) 397 = some (.aload_n 2, 1) := by decide +kernel
theorem ll_i398 : am_ins (am_c am_law) 398 = some (.aload_n 0, 1) := by decide +kernel
theorem ll_i399 : am_ins (am_c am_law) 399 = some (.iload 4, 2) := by decide +kernel
theorem ll_i401 : am_ins (am_c am_law) 401 = some (.iconst 1, 1) := by decide +kernel
theorem ll_i402 : am_ins (am_c am_law) 402 = some (.iadd, 1) := by decide +kernel
theorem ll_i403 : am_ins (am_c am_law) 403 = some (.iaload, 1) := by decide +kernel
theorem ll_i404 : am_ins (am_c am_law) 404 = some (.invokevirtual 96, 3) := by decide +kernel
theorem ll_i407 : am_ins (am_c am_law) 407 = some (.istore 6, 2) := by decide +kernel
theorem ll_i409 : am_ins (am_c am_law) 409 = some (.goto 402, 3) := by decide +kernel
theorem ll_i412 : am_ins (am_c am_law) 412 = some (.aload_n 1, 1) := by decide +kernel
theorem ll_i413 : am_ins (am_c am_law) 413 = some (.invokevirtual 97, 3) := by decide +kernel
theorem ll_i416 : am_ins (am_c am_law) 416 = some (.pop, 1) := by decide +kernel
theorem ll_i417 : am_ins (am_c am_law) 417 = some (.aload_n 2, 1) := by decide +kernel
theorem ll_i418 : am_ins (am_c am_law) 418 = some (.invokevirtual 101, 3) := by decide +kernel
theorem ll_i421 : am_ins (am_c am_law) 421 = some (.pop, 1) := by decide +kernel
theorem ll_i422 : am_ins (am_c am_law) 422 = some (.goto 389, 3) := by decide +kernel
theorem ll_i425 : am_ins (am_c am_law) 425 = some (.aload_n 1, 1) := by decide +kernel
theorem ll_i426 : am_ins (am_c am_law) 426 = some (.aload_n 0, 1) := by decide +kernel
theorem ll_i427 : am_ins (am_c am_law) 427 = some (.iload 4, 2) := by decide +kernel
theorem ll_i429 : am_ins (am_c am_law) 429 = some (.iconst 1, 1) := by decide +kernel
theorem ll_i430 : am_ins (am_c am_law) 430 = some (.iadd, 1) := by decide +kernel
theorem ll_i431 : am_ins (am_c am_law) 431 = some (.iaload, 1) := by decide +kernel
theorem ll_i432 : am_ins (am_c am_law) 432 = some (.aload_n 0, 1) := by decide +kernel
theorem ll_i433 : am_ins (am_c am_law) 433 = some (.iload 4, 2) := by decide +kernel
theorem ll_i435 : am_ins (am_c am_law) 435 = some (.iconst 2, 1) := by decide +kernel
theorem ll_i436 : am_ins (am_c am_law) 436 = some (.iadd, 1) := by decide +kernel
theorem ll_i437 : am_ins (am_c am_law) 437 = some (.iaload, 1) := by decide +kernel
theorem ll_i438 : am_ins (am_c am_law) 438 = some (.aload_n 3, 1) := by decide +kernel
theorem ll_i439 : am_ins (am_c am_law) 439 = some (.invokestatic 102, 3) := by decide +kernel
theorem ll_i442 : am_ins (am_c am_law) 442 = some (.istore 5, 2) := by decide +kernel
theorem ll_i444 : am_ins (am_c am_law) 444 = some (.aload_n 2, 1) := by decide +kernel
theorem ll_i445 : am_ins (am_c am_law) 445 = some (.aload_n 0, 1) := by decide +kernel
theorem ll_i446 : am_ins (am_c am_law) 446 = some (.iload 4, 2) := by decide +kernel
theorem ll_i448 : am_ins (am_c am_law) 448 = some (.iconst 1, 1) := by decide +kernel
theorem ll_i449 : am_ins (am_c am_law) 449 = some (.iadd, 1) := by decide +kernel
theorem ll_i450 : am_ins (am_c am_law) 450 = some (.iaload, 1) := by decide +kernel
theorem ll_i451 : am_ins (am_c am_law) 451 = some (.aload_n 0, 1) := by decide +kernel
theorem ll_i452 : am_ins (am_c am_law) 452 = some (.iload 4, 2) := by decide +kernel
theorem ll_i454 : am_ins (am_c am_law) 454 = some (.iconst 2, 1) := by decide +kernel
theorem ll_i455 : am_ins (am_c am_law) 455 = some (.iadd, 1) := by decide +kernel
theorem ll_i456 : am_ins (am_c am_law) 456 = some (.iaload, 1) := by decide +kernel
theorem ll_i457 : am_ins (am_c am_law) 457 = some (.invokevirtual 105, 3) := by decide +kernel
theorem ll_i460 : am_ins (am_c am_law) 460 = some (.istore 6, 2) := by decide +kernel
theorem ll_i462 : am_ins (am_c am_law) 462 = some (.goto 349, 3) := by decide +kernel
theorem ll_i465 : am_ins (am_c am_law) 465 = some (.aload_n 1, 1) := by decide +kernel
theorem ll_i466 : am_ins (am_c am_law) 466 = some (.aload_n 0, 1) := by decide +kernel
theorem ll_i467 : am_ins (am_c am_law) 467 = some (.iload 4, 2) := by decide +kernel
theorem ll_i469 : am_ins (am_c am_law) 469 = some (.iconst 1, 1) := by decide +kernel
theorem ll_i470 : am_ins (am_c am_law) 470 = some (.iadd, 1) := by decide +kernel
theorem ll_i471 : am_ins (am_c am_law) 471 = some (.iaload, 1) := by decide +kernel
theorem ll_i472 : am_ins (am_c am_law) 472 = some (.aload_n 0, 1) := by decide +kernel
theorem ll_i473 : am_ins (am_c am_law) 473 = some (.iload 4, 2) := by decide +kernel
theorem ll_i475 : am_ins (am_c am_law) 475 = some (.iconst 2, 1) := by decide +kernel
theorem ll_i476 : am_ins (am_c am_law) 476 = some (.iadd, 1) := by decide +kernel
theorem ll_i477 : am_ins (am_c am_law) 477 = some (.iaload, 1) := by decide +kernel
theorem ll_i478 : am_ins (am_c am_law) 478 = some (.aload_n 0, 1) := by decide +kernel
theorem ll_i479 : am_ins (am_c am_law) 479 = some (.iload 4, 2) := by decide +kernel
theorem ll_i481 : am_ins (am_c am_law) 481 = some (.iconst 3, 1) := by decide +kernel
theorem ll_i482 : am_ins (am_c am_law) 482 = some (.iadd, 1) := by decide +kernel
theorem ll_i483 : am_ins (am_c am_law) 483 = some (.iaload, 1) := by decide +kernel
theorem ll_i484 : am_ins (am_c am_law) 484 = some (.aload_n 3, 1) := by decide +kernel
theorem ll_i485 : am_ins (am_c am_law) 485 = some (.invokestatic 106, 3) := by decide +kernel
theorem ll_i488 : am_ins (am_c am_law) 488 = some (.istore 5, 2) := by decide +kernel
theorem ll_i490 : am_ins (am_c am_law) 490 = some (.aload_n 2, 1) := by decide +kernel
theorem ll_i491 : am_ins (am_c am_law) 491 = some (.aload_n 0, 1) := by decide +kernel
theorem ll_i492 : am_ins (am_c am_law) 492 = some (.iload 4, 2) := by decide +kernel
theorem ll_i494 : am_ins (am_c am_law) 494 = some (.iconst 1, 1) := by decide +kernel
theorem ll_i495 : am_ins (am_c am_law) 495 = some (.iadd, 1) := by decide +kernel
theorem ll_i496 : am_ins (am_c am_law) 496 = some (.iaload, 1) := by decide +kernel
theorem ll_i497 : am_ins (am_c am_law) 497 = some (.aload_n 0, 1) := by decide +kernel
theorem ll_i498 : am_ins (am_c am_law) 498 = some (.iload 4, 2) := by decide +kernel
theorem ll_i500 : am_ins (am_c am_law) 500 = some (.iconst 2, 1) := by decide +kernel
theorem ll_i501 : am_ins (am_c am_law) 501 = some (.iadd, 1) := by decide +kernel
theorem ll_i502 : am_ins (am_c am_law) 502 = some (.iaload, 1) := by decide +kernel
theorem ll_i503 : am_ins (am_c am_law) 503 = some (.aload_n 0, 1) := by decide +kernel
theorem ll_i504 : am_ins (am_c am_law) 504 = some (.iload 4, 2) := by decide +kernel
theorem ll_i506 : am_ins (am_c am_law) 506 = some (.iconst 3, 1) := by decide +kernel
theorem ll_i507 : am_ins (am_c am_law) 507 = some (.iadd, 1) := by decide +kernel
theorem ll_i508 : am_ins (am_c am_law) 508 = some (.iaload, 1) := by decide +kernel
theorem ll_i509 : am_ins (am_c am_law) 509 = some (.invokevirtual 108, 3) := by decide +kernel
theorem ll_i512 : am_ins (am_c am_law) 512 = some (.istore 6, 2) := by decide +kernel
theorem ll_i514 : am_ins (am_c am_law) 514 = some (.aload_n 2, 1) := by decide +kernel
theorem ll_i515 : am_ins (am_c am_law) 515 = some (.invokevirtual 109, 3) := by decide +kernel
theorem ll_i518 : am_ins (am_c am_law) 518 = some (.iload 5, 2) := by decide +kernel
theorem ll_i520 : am_ins (am_c am_law) 520 = some (.if_icmp .eq 5, 3) := by decide +kernel
theorem ll_i523 : am_ins (am_c am_law) 523 = some (.iconst 0, 1) := by decide +kernel
theorem ll_i524 : am_ins (am_c am_law) 524 = some (.ireturn, 1) := by decide +kernel
theorem ll_i525 : am_ins (am_c am_law) 525 = some (.iload 5, 2) := by decide +kernel
theorem ll_i527 : am_ins (am_c am_law) 527 = some (.ifCond .ne 15, 3) := by decide +kernel
theorem ll_i530 : am_ins (am_c am_law) 530 = some (.aload_n 3, 1) := by decide +kernel
theorem ll_i531 : am_ins (am_c am_law) 531 = some (.iconst 0, 1) := by decide +kernel
theorem ll_i532 : am_ins (am_c am_law) 532 = some (.laload, 1) := by decide +kernel
theorem ll_i533 : am_ins (am_c am_law) 533 = some (.iload 6, 2) := by decide +kernel
theorem ll_i535 : am_ins (am_c am_law) 535 = some (.i2l, 1) := by decide +kernel
theorem ll_i536 : am_ins (am_c am_law) 536 = some (.lcmp, 1) := by decide +kernel
theorem ll_i537 : am_ins (am_c am_law) 537 = some (.ifCond .eq 5, 3) := by decide +kernel
theorem ll_i540 : am_ins (am_c am_law) 540 = some (.iconst 0, 1) := by decide +kernel
theorem ll_i541 : am_ins (am_c am_law) 541 = some (.ireturn, 1) := by decide +kernel
theorem ll_i542 : am_ins (am_c am_law) 542 = some (.goto 269, 3) := by decide +kernel
theorem ll_i545 : am_ins (am_c am_law) 545 = some (.aload_n 1, 1) := by decide +kernel
theorem ll_i546 : am_ins (am_c am_law) 546 = some (.invokevirtual 112, 3) := by decide +kernel
theorem ll_i549 : am_ins (am_c am_law) 549 = some (.pop, 1) := by decide +kernel
theorem ll_i550 : am_ins (am_c am_law) 550 = some (.aload_n 2, 1) := by decide +kernel
theorem ll_i551 : am_ins (am_c am_law) 551 = some (.invokevirtual 115, 3) := by decide +kernel
theorem ll_i554 : am_ins (am_c am_law) 554 = some (.pop, 1) := by decide +kernel
theorem ll_i555 : am_ins (am_c am_law) 555 = some (.goto 256, 3) := by decide +kernel
theorem ll_i558 : am_ins (am_c am_law) 558 = some (.aload_n 1, 1) := by decide +kernel
theorem ll_i559 : am_ins (am_c am_law) 559 = some (.invokevirtual 116, 3) := by decide +kernel
theorem ll_i562 : am_ins (am_c am_law) 562 = some (.pop, 1) := by decide +kernel
theorem ll_i563 : am_ins (am_c am_law) 563 = some (.aload_n 2, 1) := by decide +kernel
theorem ll_i564 : am_ins (am_c am_law) 564 = some (.invokevirtual 119, 3) := by decide +kernel
theorem ll_i567 : am_ins (am_c am_law) 567 = some (.pop, 1) := by decide +kernel
theorem ll_i568 : am_ins (am_c am_law) 568 = some (.goto 243, 3) := by decide +kernel
theorem ll_i571 : am_ins (am_c am_law) 571 = some (.aload_n 1, 1) := by decide +kernel
theorem ll_i572 : am_ins (am_c am_law) 572 = some (.aload_n 0, 1) := by decide +kernel
theorem ll_i573 : am_ins (am_c am_law) 573 = some (.iload 4, 2) := by decide +kernel
theorem ll_i575 : am_ins (am_c am_law) 575 = some (.iconst 1, 1) := by decide +kernel
theorem ll_i576 : am_ins (am_c am_law) 576 = some (.iadd, 1) := by decide +kernel
theorem ll_i577 : am_ins (am_c am_law) 577 = some (.iaload, 1) := by decide +kernel
theorem ll_i578 : am_ins (am_c am_law) 578 = some (.aload_n 0, 1) := by decide +kernel
theorem ll_i579 : am_ins (am_c am_law) 579 = some (.iload 4, 2) := by decide +kernel
theorem ll_i581 : am_ins (am_c am_law) 581 = some (.iconst 2, 1) := by decide +kernel
theorem ll_i582 : am_ins (am_c am_law) 582 = some (.iadd, 1) := by decide +kernel
theorem ll_i583 : am_ins (am_c am_law) 583 = some (.iaload, 1) := by decide +kernel
theorem ll_i584 : am_ins (am_c am_law) 584 = some (.aload_n 3, 1) := by decide +kernel
theorem ll_i585 : am_ins (am_c am_law) 585 = some (.invokestatic 120, 3) := by decide +kernel
theorem ll_i588 : am_ins (am_c am_law) 588 = some (.istore 5, 2) := by decide +kernel
theorem ll_i590 : am_ins (am_c am_law) 590 = some (.aload_n 2, 1) := by decide +kernel
theorem ll_i591 : am_ins (am_c am_law) 591 = some (.aload_n 0, 1) := by decide +kernel
theorem ll_i592 : am_ins (am_c am_law) 592 = some (.iload 4, 2) := by decide +kernel
theorem ll_i594 : am_ins (am_c am_law) 594 = some (.iconst 1, 1) := by decide +kernel
theorem ll_i595 : am_ins (am_c am_law) 595 = some (.iadd, 1) := by decide +kernel
theorem ll_i596 : am_ins (am_c am_law) 596 = some (.iaload, 1) := by decide +kernel
theorem ll_i597 : am_ins (am_c am_law) 597 = some (.aload_n 0, 1) := by decide +kernel
theorem ll_i598 : am_ins (am_c am_law) 598 = some (.iload 4, 2) := by decide +kernel
theorem ll_i600 : am_ins (am_c am_law) 600 = some (.iconst 2, 1) := by decide +kernel
theorem ll_i601 : am_ins (am_c am_law) 601 = some (.iadd, 1) := by decide +kernel
theorem ll_i602 : am_ins (am_c am_law) 602 = some (.iaload, 1) := by decide +kernel
theorem ll_i603 : am_ins (am_c am_law) 603 = some (.invokevirtual 122, 3) := by decide +kernel
theorem ll_i606 : am_ins (am_c am_law) 606 = some (.istore 6, 2) := by decide +kernel
theorem ll_i608 : am_ins (am_c am_law) 608 = some (.goto 203, 3) := by decide +kernel
theorem ll_i611 : am_ins (am_c am_law) 611 = some (.aload_n 1, 1) := by decide +kernel
theorem ll_i612 : am_ins (am_c am_law) 612 = some (.aload_n 0, 1) := by decide +kernel
theorem ll_i613 : am_ins (am_c am_law) 613 = some (.iload 4, 2) := by decide +kernel
theorem ll_i615 : am_ins (am_c am_law) 615 = some (.iconst 1, 1) := by decide +kernel
theorem ll_i616 : am_ins (am_c am_law) 616 = some (.iadd, 1) := by decide +kernel
theorem ll_i617 : am_ins (am_c am_law) 617 = some (.iaload, 1) := by decide +kernel
theorem ll_i618 : am_ins (am_c am_law) 618 = some (.aload_n 0, 1) := by decide +kernel
theorem ll_i619 : am_ins (am_c am_law) 619 = some (.iload 4, 2) := by decide +kernel
theorem ll_i621 : am_ins (am_c am_law) 621 = some (.iconst 2, 1) := by decide +kernel
theorem ll_i622 : am_ins (am_c am_law) 622 = some (.iadd, 1) := by decide +kernel
theorem ll_i623 : am_ins (am_c am_law) 623 = some (.iaload, 1) := by decide +kernel
theorem ll_i624 : am_ins (am_c am_law) 624 = some (.aload_n 0, 1) := by decide +kernel
theorem ll_i625 : am_ins (am_c am_law) 625 = some (.iload 4, 2) := by decide +kernel
theorem ll_i627 : am_ins (am_c am_law) 627 = some (.iconst 3, 1) := by decide +kernel
theorem ll_i628 : am_ins (am_c am_law) 628 = some (.iadd, 1) := by decide +kernel
theorem ll_i629 : am_ins (am_c am_law) 629 = some (.iaload, 1) := by decide +kernel
theorem ll_i630 : am_ins (am_c am_law) 630 = some (.aload_n 3, 1) := by decide +kernel
theorem ll_i631 : am_ins (am_c am_law) 631 = some (.invokestatic 123, 3) := by decide +kernel
theorem ll_i634 : am_ins (am_c am_law) 634 = some (.istore 5, 2) := by decide +kernel
theorem ll_i636 : am_ins (am_c am_law) 636 = some (.aload_n 2, 1) := by decide +kernel
theorem ll_i637 : am_ins (am_c am_law) 637 = some (.aload_n 0, 1) := by decide +kernel
theorem ll_i638 : am_ins (am_c am_law) 638 = some (.iload 4, 2) := by decide +kernel
theorem ll_i640 : am_ins (am_c am_law) 640 = some (.iconst 1, 1) := by decide +kernel
theorem ll_i641 : am_ins (am_c am_law) 641 = some (.iadd, 1) := by decide +kernel
theorem ll_i642 : am_ins (am_c am_law) 642 = some (.iaload, 1) := by decide +kernel
theorem ll_i643 : am_ins (am_c am_law) 643 = some (.aload_n 0, 1) := by decide +kernel
theorem ll_i644 : am_ins (am_c am_law) 644 = some (.iload 4, 2) := by decide +kernel
theorem ll_i646 : am_ins (am_c am_law) 646 = some (.iconst 2, 1) := by decide +kernel
theorem ll_i647 : am_ins (am_c am_law) 647 = some (.iadd, 1) := by decide +kernel
theorem ll_i648 : am_ins (am_c am_law) 648 = some (.iaload, 1) := by decide +kernel
theorem ll_i649 : am_ins (am_c am_law) 649 = some (.aload_n 0, 1) := by decide +kernel
theorem ll_i650 : am_ins (am_c am_law) 650 = some (.iload 4, 2) := by decide +kernel
theorem ll_i652 : am_ins (am_c am_law) 652 = some (.iconst 3, 1) := by decide +kernel
theorem ll_i653 : am_ins (am_c am_law) 653 = some (.iadd, 1) := by decide +kernel
theorem ll_i654 : am_ins (am_c am_law) 654 = some (.iaload, 1) := by decide +kernel
theorem ll_i655 : am_ins (am_c am_law) 655 = some (.invokevirtual 125, 3) := by decide +kernel
theorem ll_i658 : am_ins (am_c am_law) 658 = some (.istore 6, 2) := by decide +kernel
theorem ll_i660 : am_ins (am_c am_law) 660 = some (.goto 151, 3) := by decide +kernel
theorem ll_i663 : am_ins (am_c am_law) 663 = some (.aload_n 1, 1) := by decide +kernel
theorem ll_i664 : am_ins (am_c am_law) 664 = some (.aload_n 0, 1) := by decide +kernel
theorem ll_i665 : am_ins (am_c am_law) 665 = some (.iload 4, 2) := by decide +kernel
theorem ll_i667 : am_ins (am_c am_law) 667 = some (.iconst 1, 1) := by decide +kernel
theorem ll_i668 : am_ins (am_c am_law) 668 = some (.iadd, 1) := by decide +kernel
theorem ll_i669 : am_ins (am_c am_law) 669 = some (.iaload, 1) := by decide +kernel
theorem ll_i670 : am_ins (am_c am_law) 670 = some (.aload_n 0, 1) := by decide +kernel
theorem ll_i671 : am_ins (am_c am_law) 671 = some (.iload 4, 2) := by decide +kernel
theorem ll_i673 : am_ins (am_c am_law) 673 = some (.iconst 2, 1) := by decide +kernel
theorem ll_i674 : am_ins (am_c am_law) 674 = some (.iadd, 1) := by decide +kernel
theorem ll_i675 : am_ins (am_c am_law) 675 = some (.iaload, 1) := by decide +kernel
theorem ll_i676 : am_ins (am_c am_law) 676 = some (.aload_n 3, 1) := by decide +kernel
theorem ll_i677 : am_ins (am_c am_law) 677 = some (.invokestatic 126, 3) := by decide +kernel
theorem ll_i680 : am_ins (am_c am_law) 680 = some (.istore 5, 2) := by decide +kernel
theorem ll_i682 : am_ins (am_c am_law) 682 = some (.aload_n 2, 1) := by decide +kernel
theorem ll_i683 : am_ins (am_c am_law) 683 = some (.aload_n 0, 1) := by decide +kernel
theorem ll_i684 : am_ins (am_c am_law) 684 = some (.iload 4, 2) := by decide +kernel
theorem ll_i686 : am_ins (am_c am_law) 686 = some (.iconst 1, 1) := by decide +kernel
theorem ll_i687 : am_ins (am_c am_law) 687 = some (.iadd, 1) := by decide +kernel
theorem ll_i688 : am_ins (am_c am_law) 688 = some (.iaload, 1) := by decide +kernel
theorem ll_i689 : am_ins (am_c am_law) 689 = some (.aload_n 0, 1) := by decide +kernel
theorem ll_i690 : am_ins (am_c am_law) 690 = some (.iload 4, 2) := by decide +kernel
theorem ll_i692 : am_ins (am_c am_law) 692 = some (.iconst 2, 1) := by decide +kernel
theorem ll_i693 : am_ins (am_c am_law) 693 = some (.iadd, 1) := by decide +kernel
theorem ll_i694 : am_ins (am_c am_law) 694 = some (.iaload, 1) := by decide +kernel
theorem ll_i695 : am_ins (am_c am_law) 695 = some (.invokevirtual 128, 3) := by decide +kernel
theorem ll_i698 : am_ins (am_c am_law) 698 = some (.istore 6, 2) := by decide +kernel
theorem ll_i700 : am_ins (am_c am_law) 700 = some (.goto 111, 3) := by decide +kernel
theorem ll_i703 : am_ins (am_c am_law) 703 = some (.aload_n 1, 1) := by decide +kernel
theorem ll_i704 : am_ins (am_c am_law) 704 = some (.aload_n 0, 1) := by decide +kernel
theorem ll_i705 : am_ins (am_c am_law) 705 = some (.iload 4, 2) := by decide +kernel
theorem ll_i707 : am_ins (am_c am_law) 707 = some (.iconst 1, 1) := by decide +kernel
theorem ll_i708 : am_ins (am_c am_law) 708 = some (.iadd, 1) := by decide +kernel
theorem ll_i709 : am_ins (am_c am_law) 709 = some (.iaload, 1) := by decide +kernel
theorem ll_i710 : am_ins (am_c am_law) 710 = some (.aload_n 3, 1) := by decide +kernel
theorem ll_i711 : am_ins (am_c am_law) 711 = some (.invokestatic 129, 3) := by decide +kernel
theorem ll_i714 : am_ins (am_c am_law) 714 = some (.istore 5, 2) := by decide +kernel
theorem ll_i716 : am_ins (am_c am_law) 716 = some (.aload_n 2, 1) := by decide +kernel
theorem ll_i717 : am_ins (am_c am_law) 717 = some (.aload_n 0, 1) := by decide +kernel
theorem ll_i718 : am_ins (am_c am_law) 718 = some (.iload 4, 2) := by decide +kernel
theorem ll_i720 : am_ins (am_c am_law) 720 = some (.iconst 1, 1) := by decide +kernel
theorem ll_i721 : am_ins (am_c am_law) 721 = some (.iadd, 1) := by decide +kernel
theorem ll_i722 : am_ins (am_c am_law) 722 = some (.iaload, 1) := by decide +kernel
theorem ll_i723 : am_ins (am_c am_law) 723 = some (.invokevirtual 131, 3) := by decide +kernel
theorem ll_i726 : am_ins (am_c am_law) 726 = some (.istore 6, 2) := by decide +kernel
theorem ll_i728 : am_ins (am_c am_law) 728 = some (.goto 83, 3) := by decide +kernel
theorem ll_i731 : am_ins (am_c am_law) 731 = some (.aload_n 1, 1) := by decide +kernel
theorem ll_i732 : am_ins (am_c am_law) 732 = some (.aload_n 0, 1) := by decide +kernel
theorem ll_i733 : am_ins (am_c am_law) 733 = some (.iload 4, 2) := by decide +kernel
theorem ll_i735 : am_ins (am_c am_law) 735 = some (.iconst 1, 1) := by decide +kernel
theorem ll_i736 : am_ins (am_c am_law) 736 = some (.iadd, 1) := by decide +kernel
theorem ll_i737 : am_ins (am_c am_law) 737 = some (.iaload, 1) := by decide +kernel
theorem ll_i738 : am_ins (am_c am_law) 738 = some (.aload_n 0, 1) := by decide +kernel
theorem ll_i739 : am_ins (am_c am_law) 739 = some (.iload 4, 2) := by decide +kernel
theorem ll_i741 : am_ins (am_c am_law) 741 = some (.iconst 2, 1) := by decide +kernel
theorem ll_i742 : am_ins (am_c am_law) 742 = some (.iadd, 1) := by decide +kernel
theorem ll_i743 : am_ins (am_c am_law) 743 = some (.iaload, 1) := by decide +kernel
theorem ll_i744 : am_ins (am_c am_law) 744 = some (.aload_n 3, 1) := by decide +kernel
theorem ll_i745 : am_ins (am_c am_law) 745 = some (.invokestatic 132, 3) := by decide +kernel
theorem ll_i748 : am_ins (am_c am_law) 748 = some (.istore 5, 2) := by decide +kernel
theorem ll_i750 : am_ins (am_c am_law) 750 = some (.aload_n 2, 1) := by decide +kernel
theorem ll_i751 : am_ins (am_c am_law) 751 = some (.aload_n 0, 1) := by decide +kernel
theorem ll_i752 : am_ins (am_c am_law) 752 = some (.iload 4, 2) := by decide +kernel
theorem ll_i754 : am_ins (am_c am_law) 754 = some (.iconst 1, 1) := by decide +kernel
theorem ll_i755 : am_ins (am_c am_law) 755 = some (.iadd, 1) := by decide +kernel
theorem ll_i756 : am_ins (am_c am_law) 756 = some (.iaload, 1) := by decide +kernel
theorem ll_i757 : am_ins (am_c am_law) 757 = some (.aload_n 0, 1) := by decide +kernel
theorem ll_i758 : am_ins (am_c am_law) 758 = some (.iload 4, 2) := by decide +kernel
theorem ll_i760 : am_ins (am_c am_law) 760 = some (.iconst 2, 1) := by decide +kernel
theorem ll_i761 : am_ins (am_c am_law) 761 = some (.iadd, 1) := by decide +kernel
theorem ll_i762 : am_ins (am_c am_law) 762 = some (.iaload, 1) := by decide +kernel
theorem ll_i763 : am_ins (am_c am_law) 763 = some (.invokevirtual 134, 3) := by decide +kernel
theorem ll_i766 : am_ins (am_c am_law) 766 = some (.istore 6, 2) := by decide +kernel
theorem ll_i768 : am_ins (am_c am_law) 768 = some (.goto 43, 3) := by decide +kernel
theorem ll_i771 : am_ins (am_c am_law) 771 = some (.aload_n 1, 1) := by decide +kernel
theorem ll_i772 : am_ins (am_c am_law) 772 = some (.aload_n 0, 1) := by decide +kernel
theorem ll_i773 : am_ins (am_c am_law) 773 = some (.iload 4, 2) := by decide +kernel
theorem ll_i775 : am_ins (am_c am_law) 775 = some (.iconst 1, 1) := by decide +kernel
theorem ll_i776 : am_ins (am_c am_law) 776 = some (.iadd, 1) := by decide +kernel
theorem ll_i777 : am_ins (am_c am_law) 777 = some (.iaload, 1) := by decide +kernel
theorem ll_i778 : am_ins (am_c am_law) 778 = some (.aload_n 0, 1) := by decide +kernel
theorem ll_i779 : am_ins (am_c am_law) 779 = some (.iload 4, 2) := by decide +kernel
theorem ll_i781 : am_ins (am_c am_law) 781 = some (.iconst 2, 1) := by decide +kernel
theorem ll_i782 : am_ins (am_c am_law) 782 = some (.iadd, 1) := by decide +kernel
theorem ll_i783 : am_ins (am_c am_law) 783 = some (.iaload, 1) := by decide +kernel
theorem ll_i784 : am_ins (am_c am_law) 784 = some (.aload_n 3, 1) := by decide +kernel
theorem ll_i785 : am_ins (am_c am_law) 785 = some (.invokestatic 135, 3) := by decide +kernel
theorem ll_i788 : am_ins (am_c am_law) 788 = some (.istore 5, 2) := by decide +kernel
theorem ll_i790 : am_ins (am_c am_law) 790 = some (.aload_n 2, 1) := by decide +kernel
theorem ll_i791 : am_ins (am_c am_law) 791 = some (.aload_n 0, 1) := by decide +kernel
theorem ll_i792 : am_ins (am_c am_law) 792 = some (.iload 4, 2) := by decide +kernel
theorem ll_i794 : am_ins (am_c am_law) 794 = some (.iconst 1, 1) := by decide +kernel
theorem ll_i795 : am_ins (am_c am_law) 795 = some (.iadd, 1) := by decide +kernel
theorem ll_i796 : am_ins (am_c am_law) 796 = some (.iaload, 1) := by decide +kernel
theorem ll_i797 : am_ins (am_c am_law) 797 = some (.aload_n 0, 1) := by decide +kernel
theorem ll_i798 : am_ins (am_c am_law) 798 = some (.iload 4, 2) := by decide +kernel
theorem ll_i800 : am_ins (am_c am_law) 800 = some (.iconst 2, 1) := by decide +kernel
theorem ll_i801 : am_ins (am_c am_law) 801 = some (.iadd, 1) := by decide +kernel
theorem ll_i802 : am_ins (am_c am_law) 802 = some (.iaload, 1) := by decide +kernel
theorem ll_i803 : am_ins (am_c am_law) 803 = some (.invokevirtual 137, 3) := by decide +kernel
theorem ll_i806 : am_ins (am_c am_law) 806 = some (.istore 6, 2) := by decide +kernel
theorem ll_i808 : am_ins (am_c am_law) 808 = some (.goto 3, 3) := by decide +kernel
theorem ll_i811 : am_ins (am_c am_law) 811 = some (.iinc 4 4, 3) := by decide +kernel
theorem ll_i814 : am_ins (am_c am_law) 814 = some (.goto (-791), 3) := by decide +kernel
theorem ll_i817 : am_ins (am_c am_law) 817 = some (.iconst 1, 1) := by decide +kernel
theorem ll_i818 : am_ins (am_c am_law) 818 = some (.ireturn, 1) := by decide +kernel
