/-! ===== by hand: calls by contract; the queue's removeFirst, and settle ===== -/
section RSV
variable {fty : Nat → Nat → Option FieldType} {dfl : Nat → Option (List Value)} {cmp : Nat → Option (Option Nat)} {lk : Nat → Nat → Option am_K} {ms : Nat → Option am_M} {cx : Nat → Option Nat}
variable {tls : Nat → List Nat} {mi : am_M} {mf : fm_M} {pc a b c d k q : Nat} {lo : List (Option Value)} {h h0 : am_H} {Q : am_R → Prop}
variable {kd : Nat → Nat × Nat} {un uq : Nat → Bool} {Gm : Nat → Nat → List ab_V} {τ u : Nat → Nat} {tv wr : Nat} {K : am_H → Prop} {P0 P1 : am_H → Nat}
theorem Rn_mono {S : am_S} {Q' : am_R → Prop} (h : Rn fty dfl cmp lk ms cx mi S Q') (hq : ∀ r, Q' r → Q r) : Rn fty dfl cmp lk ms cx mi S Q := by
  obtain ⟨f, r, h1, h2⟩ := h
  exact ⟨f, r, h1, hq r h2⟩
theorem rs_iv (hmf : wk_mck fty lk tls mi mf = true) (hw : wk_at mf pc 40 a b 2 d = true) {x : Nat} {r as : List Value} {mj : am_M} (hI : ab_I kd un Gm τ tv h) (hx : τ x ≠ 0) (hk : (kd (τ x)).1 = d) (hb : as.length = b) (ho : am_one as = true) (hr : am_cat r ≤ 8) (hj : ms a = some mj) (hroom : am_f mj + 1 ≤ am_f mi ∧ 8 + (am_L mj + 11) + am_w mj ≤ am_w mi ∧ as.length + 1 ≤ am_L mj) (hc : Rn fty dfl cmp lk ms cx mj (0, (.ref x :: as).map some ++ List.replicate (am_L mj - (as.length + 1)) none, [], h, 0, 0) (fun r' => ∃ v h' k' q', r' = (.inl v, h', k', q') ∧ Rn fty dfl cmp lk ms cx mi (pc + 3, lo, v.toList ++ r, h', k + k', q + q') Q)) : Rn fty dfl cmp lk ms cx mi (pc, lo, as.reverse ++ .ref x :: r, h, k, q) Q := by
  obtain ⟨vs, h1, -, -⟩ := hI x hx
  have e1 : (as.reverse ++ .ref x :: r).take b = as.reverse := by
    rw [List.take_append_of_le_length (by rw [List.length_reverse]; omega), List.take_of_length_le (by rw [List.length_reverse]; omega)]
  have e2 : (as.reverse ++ .ref x :: r).drop b = .ref x :: r := by
    rw [List.drop_append_of_le_length (by rw [List.length_reverse]; omega), List.drop_of_length_le (by rw [List.length_reverse]; omega)]
    rfl
  have hx' : wk_ex tls cmp 40 a b 2 d pc lo (as.reverse ++ .ref x :: r) h k q = some (.inr (.inr (a, .ref x :: as, (pc, lo, r, h, k, q)))) := by
    have := ab_ask2 (kk := (0, a, b, (d : Int))) (rc := 2) (y := x) (r := r) (st := as.reverse ++ .ref x :: r) (pc := pc) (lo' := lo) (k := k) (q := q) (by decide) (by show ((as.reverse ++ .ref x :: r).take b).reverse.length = b; rw [e1, List.reverse_reverse]; exact hb) e2 hr (by show am_one ((as.reverse ++ .ref x :: r).take b).reverse = true; rw [e1, List.reverse_reverse]; exact ho) h1 (Or.inr (by show (((kd (τ x)).1 : Nat) : Int) = (d : Int); rw [hk]))
    show am_ask (0, a, b, (d : Int)) 2 pc lo (as.reverse ++ .ref x :: r) h k q = _
    rw [this]
    show some (Sum.inr (Sum.inr (a, .ref x :: ((as.reverse ++ .ref x :: r).take b).reverse, (pc, lo, r, h, k, q)))) = _
    rw [e1, List.reverse_reverse]
  exact rs_ca hmf hw hx' hj hroom hc
/-- by a contract without thrown ends -/
theorem rs_cv {j : Nat} {C : ab_C} {mj : am_M} {ρ : Nat → Nat} {as : List Value} (hV : ab_Vd fty dfl cmp lk ms cx kd un uq Gm τ u tv K P0 P1 j C) (hj : ms j = some mj) (had : ab_ad uq u ρ) (hI : ab_I kd un Gm τ tv h) (hK : K h) (hA : ab_gA τ tv ρ C.1 as) (hF : ab_fs τ tv ρ h C.2.1) (h2 : ∀ e ∈ C.2.2.1, e.1 ≠ 2) {n : Nat} (hn : n = as.length) (hQ : ∀ v h' k' q', ab_Po kd un Gm τ u tv K P0 P1 C h (.inl v, h', k', q') → Q (.inl v, h', k', q')) : Rn fty dfl cmp lk ms cx mj (0, as.map some ++ List.replicate (am_L mj - n) none, [], h, 0, 0) Q := by
  subst hn
  refine Rn_mono (hV mj hj ρ h as had hI hK hA hF) (fun r hr => ?_)
  obtain ⟨rv, h', k', q'⟩ := r
  obtain ⟨e, he, hend, hrest⟩ := hr
  rcases hend with ⟨h1, h3⟩ | ⟨h1, x, h3, h4⟩ | ⟨h1, -⟩
  · have h3 : rv = .inl none := h3
    subst h3
    exact hQ _ _ _ _ ⟨e, he, Or.inl ⟨h1, rfl⟩, hrest⟩
  · have h3 : rv = .inl (some x) := h3
    subst h3
    exact hQ _ _ _ _ ⟨e, he, Or.inr (Or.inl ⟨h1, x, rfl, h4⟩), hrest⟩
  · exact absurd h1 (h2 e he)
theorem rs_tr {wc k' q' : Nat} {h' : am_H} {g : ab_G} (hw : Nat.beq (Nat.land wc wr) wc = true) (hP : rs_H kd un Gm τ tv wr h0 h k) (hC : ab_Hp kd un Gm τ tv K P0 P1 wc h h' k' q' g) : rs_H kd un Gm τ tv wr h0 h' (k + k') := by
  obtain ⟨p1, p3, p4⟩ := hP
  obtain ⟨c1, c2, c3, c4, -⟩ := hC
  refine ⟨c1, ?_, by omega⟩
  intro a ha
  obtain ⟨f1, f2⟩ := p3 a ha
  obtain ⟨g1, g2⟩ := c3 a (by omega)
  exact ⟨fun e => (g1 e).trans (f1 e), fun e i hb => (g2 e i (ab_tb_land hw hb)).trans (f2 e i hb)⟩
end RSV
def kc_rmf : ab_C := ([(1, 80, 0)], [(80, 2, w_r 1 16)], [(0, (3, 0, 0), [])], 0x600000000000000000000000000000000000000000000000000000000000000000000000000000000, (1001, 1000, 0, 0))
theorem kc_fact {τ : Nat → Nat} {tv : Nat} {ρ : Nat → Nat} {h : am_H} {n i lo hi : Nat} (hf : ab_fs τ tv ρ h [(n, i, (0, lo, hi))]) : ∃ z : Int32, ab_sl h (ρ n) i = some (.int z) ∧ lo ≤ ab_b z ∧ ab_b z ≤ hi := by
  obtain ⟨-, -, x, hx, z, rfl, z1, z2⟩ := hf _ (List.mem_singleton_self _)
  exact ⟨z, hx, z1, z2⟩
theorem kc_len {mc : Nat} {τ : Nat → Nat} {tv : Nat} (hmc : Nat.beq mc 0 = false) {h : am_H} (hI : ab_I w_kd w_un (w_G mc) τ tv h) {x : Nat} (hx : τ x = 5) : ∃ z : Int32, ab_sl h x 2 = some (.int z) ∧ 2147483648 ≤ ab_b z ∧ ab_b z ≤ 2147483664 := by
  have hG2 : w_G mc 5 (ab_gi w_un 5 2) = [w_r 0 16] := by
    show (bif Nat.beq mc 0 then [w_e 0] else [w_r 0 16]) = _
    rw [hmc]
    rfl
  exact kc_int hI hx (by decide) (i := 2) (by decide) (lo := 2147483648) (hi := 2147483664) hG2
set_option maxRecDepth 100000 in
theorem kc_rmf_ok {mc : Nat} {τ u : Nat → Nat} {tv : Nat} (hmc : Nat.beq mc 0 = false) : cl_Vd mc τ u tv 48 kc_rmf := by
  intro mj hmj ρ h as had hI hK hA hF
  have hmj : am_m48 = mj := Option.some.inj hmj
  subst hmj
  match as, hA with
  | [v1], hA =>
    obtain ⟨e1 | ⟨rfl, x1, x2⟩, -⟩ := hA
    · cases e1
    have x1 : τ (ρ 80) = 5 := x1
    obtain ⟨zl, hzl, l1, l2⟩ := kc_fact hF
    have hxu : u 5 = ρ 80 := (had 5 (by decide +kernel)).symm
    generalize ρ 80 = x at x1 hzl hxu
    have l1 : 2147483649 ≤ ab_b zl := l1
    have l2 : ab_b zl ≤ 2147483664 := l2
    have hx0 : τ x ≠ 0 := by rw [x1]; decide
    have hkx : (w_kd (τ x)).1 = 4 := by rw [x1]; rfl
    have hP0 : cl_H mc τ tv 0x600000000000000000000000000000000000000000000000000000000000000000000000000000000 h h 0 := cl_0 hI
    have c1 : ab_b (Int32.ofNat (9 / 8)) = 2147483649 := by decide
    have c16 : ab_b (Int32.ofNat (129 / 8)) = 2147483664 := by decide
    have hG2 : w_G mc 5 (ab_gi w_un 5 2) = [w_r 0 16] := by
      show (bif Nat.beq mc 0 then [w_e 0] else [w_r 0 16]) = _
      rw [hmc]
      rfl
    obtain ⟨zt, hzt, t1, t2⟩ := kc_int hI x1 (by decide) (i := 1) (by decide) (lo := 2147483648) (hi := 2147483663) rfl
    show cl_Rn am_m48 (0, [some (.ref x)], [], h, 0, 0) _
    refine rs_st (cmp := am_cmp) wk_q48 (show wk_at wk_m48 0 3 0 1 0 0 = true by decide +kernel) rfl ?_
    refine rs_st (cmp := am_cmp) wk_q48 (show wk_at wk_m48 1 3 0 1 0 0 = true by decide +kernel) rfl ?_
    refine rs_get wk_q48 (show wk_at wk_m48 2 25 4 1 0 0 = true by decide +kernel) hP0.1 hx0 hkx (v := .int zt) hzt ?_
    refine rs_st (cmp := am_cmp) wk_q48 (show wk_at wk_m48 5 1 9 1 0 0 = true by decide +kernel) rfl ?_
    refine rs_st (cmp := am_cmp) wk_q48 (show wk_at wk_m48 6 7 0 0 0 0 = true by decide +kernel) rfl ?_
    refine rs_st (cmp := am_cmp) wk_q48 (show wk_at wk_m48 7 1 129 2 0 0 = true by decide +kernel) rfl ?_
    refine rs_rem wk_q48 (show wk_at wk_m48 9 13 0 0 0 0 = true by decide +kernel) (by decide) ?_
    have hadd := ab_b_add (x := zt) (y := Int32.ofNat (9 / 8)) (by omega) (by omega)
    have hrem := ab_b_rem (x := zt + Int32.ofNat (9 / 8)) (y := Int32.ofNat (129 / 8)) (by omega) (by rw [c16]; decide)
    rw [c16] at hrem
    generalize zt + Int32.ofNat (9 / 8) - (zt + Int32.ofNat (9 / 8)) / Int32.ofNat (129 / 8) * Int32.ofNat (129 / 8) = zi at hrem
    refine rs_put wk_q48 (show wk_at wk_m48 10 26 4 1 0 0 = true by decide +kernel) hP0 hx0 hkx (by rw [x1]; decide) rfl (by rw [x1]; decide +kernel) (by rw [x1]; exact ⟨w_r 0 15, List.mem_singleton_self _, zi, rfl, by show 2147483648 ≤ _; omega, by show _ ≤ 2147483663; omega⟩) (fun h1 hP1 e1 => ?_)
    refine rs_st (cmp := am_cmp) wk_q48 (show wk_at wk_m48 13 3 0 1 0 0 = true by decide +kernel) rfl ?_
    refine rs_st (cmp := am_cmp) wk_q48 (show wk_at wk_m48 14 18 0 0 0 0 = true by decide +kernel) rfl ?_
    refine rs_get wk_q48 (show wk_at wk_m48 15 25 4 2 0 0 = true by decide +kernel) hP1.1 hx0 hkx (v := .int zl) (by rw [e1, if_neg (by omega)]; exact hzl) ?_
    refine rs_st (cmp := am_cmp) wk_q48 (show wk_at wk_m48 18 1 9 1 0 0 = true by decide +kernel) rfl ?_
    refine rs_st (cmp := am_cmp) wk_q48 (show wk_at wk_m48 19 8 0 0 0 0 = true by decide +kernel) rfl ?_
    have hsub := ab_b_sub (x := zl) (y := Int32.ofNat (9 / 8)) (by omega) (by omega)
    refine rs_put wk_q48 (show wk_at wk_m48 20 26 4 2 0 0 = true by decide +kernel) hP1 hx0 hkx (by rw [x1]; decide) rfl (by rw [x1]; decide +kernel) (by rw [x1, hG2]; exact ⟨_, List.mem_singleton_self _, _, rfl, by show 2147483648 ≤ _; omega, by show _ ≤ 2147483664; omega⟩) (fun h2 hP2 e2 => ?_)
    refine rs_en (cmp := am_cmp) wk_q48 (show wk_at wk_m48 23 46 0 0 0 0 = true by decide +kernel) rfl ⟨_, List.mem_singleton_self _, Or.inl ⟨rfl, rfl⟩, cl_Hp hP2 ?_ ?_ (Nat.le_refl _) (Nat.le_refl _) (Nat.le_refl _), fun f hf => by cases hf⟩
    · intro a ha
      have hax : a ≠ x := fun e => by rw [e, x1] at ha; cases ha
      have ks : ∀ i, ab_sl h2 a i = ab_sl h a i := fun i => by rw [e2, if_neg (fun z => hax z.1), e1, if_neg (fun z => hax z.1)]
      rw [ks, ks, ks]
      exact hK a ha
    · unfold kc_P
      rw [hxu, e2, if_pos ⟨rfl, rfl⟩, hzl]
      show 2147483664 - ab_b (zl - Int32.ofNat (9 / 8)) + 1000 ≤ 2147483664 - ab_b zl + 1001
      omega
  | [], hA => exact hA.elim
  | _ :: _ :: _, hA => exact hA.2.elim
