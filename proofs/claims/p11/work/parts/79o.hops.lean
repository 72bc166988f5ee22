/-! ===== the reference: hops are found again ===== -/
section RSW
variable {fty : Nat → Nat → Option FieldType} {dfl : Nat → Option (List Value)} {cmp : Nat → Option (Option Nat)} {lk : Nat → Nat → Option am_K} {ms : Nat → Option am_M} {cx : Nat → Option Nat}
variable {tls : Nat → List Nat} {mi : am_M} {mf : fm_M} {pc a b c d k q : Nat} {lo : List (Option Value)} {h h0 : am_H} {Q : am_R → Prop}
variable {kd : Nat → Nat × Nat} {un uq : Nat → Bool} {Gm : Nat → Nat → List ab_V} {τ u : Nat → Nat} {tv wr : Nat} {K : am_H → Prop} {P0 P1 : am_H → Nat}
/-- nothing was written -/
theorem ab_Fr_eq {h' : am_H} (hI : ab_I kd un Gm τ tv h) (hI' : ab_I kd un Gm τ tv h') (hF : ab_Fr kd τ 0 h h') (hl : h'.length = h.length) : h' = h := by
  apply List.ext_getElem? 
  intro a
  by_cases ha : a < h.length
  · obtain ⟨f1, f2⟩ := hF a ha
    by_cases h0 : τ a = 0
    · exact f1 h0
    · obtain ⟨vs, v1, v2, -⟩ := hI a h0
      obtain ⟨ws, w1, w2, -⟩ := hI' a h0
      rw [v1, w1]
      have : ws = vs := by
        apply List.ext_getElem?
        intro i
        have := f2 h0 i (by rw [ab_tb_eq]; exact Nat.zero_testBit _)
        rw [ab_sl_at v1, ab_sl_at w1] at this
        exact this
      rw [this]
  · rw [List.getElem?_eq_none (by omega), List.getElem?_eq_none (by omega)]
theorem rs_is (hmf : wk_mck fty lk tls mi mf = true) (hw : wk_at mf pc 40 a b 0 d = true) {r as : List Value} {mj : am_M} (hb : as.length = b) (ho : am_one as = true) (hr : am_cat r ≤ 8) (hj : ms a = some mj) (hroom : am_f mj + 1 ≤ am_f mi ∧ 8 + (am_L mj + 11) + am_w mj ≤ am_w mi ∧ as.length ≤ am_L mj) (hc : Rn fty dfl cmp lk ms cx mj (0, as.map some ++ List.replicate (am_L mj - as.length) none, [], h, 0, 0) (fun r' => ∃ v h' k' q', r' = (.inl v, h', k', q') ∧ Rn fty dfl cmp lk ms cx mi (pc + 3, lo, v.toList ++ r, h', k + k', q + q') Q)) : Rn fty dfl cmp lk ms cx mi (pc, lo, as.reverse ++ r, h, k, q) Q := by
  have e1 : (as.reverse ++ r).take b = as.reverse := by
    rw [List.take_append_of_le_length (by rw [List.length_reverse]; omega), List.take_of_length_le (by rw [List.length_reverse]; omega)]
  have e2 : (as.reverse ++ r).drop b = r := by
    rw [List.drop_append_of_le_length (by rw [List.length_reverse]; omega), List.drop_of_length_le (by rw [List.length_reverse]; omega)]
    rfl
  have hx' : wk_ex tls cmp 40 a b 0 d pc lo (as.reverse ++ r) h k q = some (.inr (.inr (a, as, (pc, lo, r, h, k, q)))) := by
    show am_ask (0, a, b, (d : Int)) 0 pc lo (as.reverse ++ r) h k q = _
    unfold am_ask
    dsimp only
    rw [e1, e2, List.reverse_reverse, if_pos hb, if_pos ⟨hr, ho⟩]
    rfl
  exact rs_ca hmf hw hx' hj hroom hc
end RSW
/-- hopOf of that number answers z, and nothing changes -/
def md_HO (u : Nat → Nat) (h : am_H) (zn zl zj z : Int32) : Prop := cl_Rn am_m100 (0, [some (.ref (u 40)), some (.int zn), some (.int zl), some (.int zj), none, none], [], h, 0, 0) (fun r => r = (.inl (some (.int z)), h, 0, 0))
/-- hopOf's contract: for node n, the hop of number b, m the greatest answer -/
def md_hop (n b : Nat) (l : List (Nat × ab_V × List ab_F)) : ab_C := ([(1, 640, 0), w_e n, w_r 0 3, w_e b], [], l, 0x0, w_g0)
theorem md_HO_of {mc : Nat} {τ u : Nat → Nat} {tv : Nat} (hut : ∀ k, w_uq k = true → τ (u k) = k) {h : am_H} (hI : ab_I w_kd w_un (w_G mc) τ tv h) (hK : km_K u mc h) {n b : Nat} {l : List (Nat × ab_V × List ab_F)} (hl : ∀ e ∈ l, e.1 = 1 ∧ e.2.1.1 = 0) (hV : md_Vd mc τ u tv 100 (md_hop n b l)) {zn zl zj : Int32} (hn : ab_b zn = Nat.add 2147483648 n) (hj : ab_b zj = Nat.add 2147483648 b) (l1 : 2147483648 ≤ ab_b zl) (l2 : ab_b zl ≤ 2147483651) : ∃ z, md_HO u h zn zl zj z ∧ ∃ e ∈ l, e.2.1.2.1 ≤ ab_b z ∧ ab_b z ≤ e.2.1.2.2 := by
  have hu : τ (u 40) = 40 := hut 40 (by decide +kernel)
  have hA : ab_gA τ tv (fun n => u (n / 16)) (md_hop n b l).1 [.ref (u 40), .int zn, .int zl, .int zj] := ⟨Or.inr ⟨rfl, hu, by decide⟩, Or.inr (ab_g_0.mpr ⟨zn, rfl, by rw [hn]; exact Nat.le_refl _, by rw [hn]; exact Nat.le_refl _⟩), Or.inr (ab_g_0.mpr ⟨zl, rfl, l1, l2⟩), Or.inr (ab_g_0.mpr ⟨zj, rfl, by rw [hj]; exact Nat.le_refl _, by rw [hj]; exact Nat.le_refl _⟩), trivial⟩
  obtain ⟨f, r, hr, e, he, hend, hH, -⟩ := hV am_m100 rfl (fun n => u (n / 16)) h [.ref (u 40), .int zn, .int zl, .int zj] (fun k _ => by
    have : 16 * k / 16 = k := by omega
    show u (16 * k / 16) = u k
    rw [this]) hI hK hA (fun f hf => by cases hf)
  obtain ⟨rv, h', k', q'⟩ := r
  have hH : ab_Hp w_kd w_un (w_G mc) τ tv (km_K u mc) (km_F u) (km_Q u) 0 h h' k' q' w_g0 := hH
  obtain ⟨i1, -, i3, i4, -, -, i7, i8⟩ := hH
  obtain rfl : k' = 0 := Nat.le_zero.mp i7
  obtain rfl : q' = 0 := Nat.le_zero.mp i8
  obtain rfl : h' = h := ab_Fr_eq hI i1 i3 i4
  obtain ⟨e1, e2⟩ := hl e he
  rcases hend with ⟨h1, -⟩ | ⟨-, x, hx, hg⟩ | ⟨h1, -⟩
  · rw [e1] at h1; cases h1
  · have hx : rv = .inl (some x) := hx
    subst hx
    obtain ⟨t, v, fs⟩ := e
    obtain ⟨tg, a, b'⟩ := v
    have e2 : tg = 0 := e2
    subst e2
    obtain ⟨z, rfl, z1, z2⟩ := hg
    exact ⟨z, ⟨f, _, hr, rfl⟩, _, he, z1, z2⟩
  · rw [e1] at h1; cases h1
/-- all of hops: it counts up while hopOf finds one -/
theorem md_hops_loop {mc : Nat} {τ u : Nat → Nat} {tv : Nat} (hut : ∀ k, w_uq k = true → τ (u k) = k) {h : am_H} (hI : ab_I w_kd w_un (w_G mc) τ tv h) {zn zl : Int32} {N m : Nat} (hN : N ≤ 4) (hH : ∀ b, b ≤ N → ∀ zj : Int32, ab_b zj = Nat.add 2147483648 b → ∃ z, md_HO u h zn zl zj z ∧ (ab_b z < 2147483648 ∨ (b < N ∧ ab_b z ≤ 2147483648 + m))) {Q : am_R → Prop} (hQ : ∀ (n : Nat) (zj : Int32), n ≤ N → ab_b zj = Nat.add 2147483648 n → (∀ b, b < n → ∀ zb : Int32, ab_b zb = Nat.add 2147483648 b → ∃ z, md_HO u h zn zl zb z ∧ 2147483648 ≤ ab_b z ∧ ab_b z ≤ 2147483648 + m) → Q (.inl (some (.int zj)), h, 0, 0)) : ∀ (d n : Nat) (zj : Int32), d + n = N → ab_b zj = Nat.add 2147483648 n → (∀ b, b < n → ∀ zb : Int32, ab_b zb = Nat.add 2147483648 b → ∃ z, md_HO u h zn zl zb z ∧ 2147483648 ≤ ab_b z ∧ ab_b z ≤ 2147483648 + m) → cl_Rn am_m101 (2, [some (.ref (u 40)), some (.int zn), some (.int zl), some (.int zj)], [], h, 0, 0) Q := by
  have hu : τ (u 40) = 40 := hut 40 (by decide +kernel)
  have hu0 : τ (u 40) ≠ 0 := by rw [hu]; decide
  have hk40 : (w_kd (τ (u 40))).1 = 9 := by rw [hu]; rfl
  have c1 : ab_b (Int32.ofNat 1) = 2147483649 := by decide
  have body : ∀ (n : Nat) (zj : Int32), n ≤ N → ab_b zj = Nat.add 2147483648 n → (∀ b, b < n → ∀ zb : Int32, ab_b zb = Nat.add 2147483648 b → ∃ z, md_HO u h zn zl zb z ∧ 2147483648 ≤ ab_b z ∧ ab_b z ≤ 2147483648 + m) → (n < N → (∀ b, b < n + 1 → ∀ zb : Int32, ab_b zb = Nat.add 2147483648 b → ∃ z, md_HO u h zn zl zb z ∧ 2147483648 ≤ ab_b z ∧ ab_b z ≤ 2147483648 + m) → cl_Rn am_m101 (2, [some (.ref (u 40)), some (.int zn), some (.int zl), some (.int (zj + Int32.ofNat 1))], [], h, 0, 0) Q) → cl_Rn am_m101 (2, [some (.ref (u 40)), some (.int zn), some (.int zl), some (.int zj)], [], h, 0, 0) Q := by
    intro n zj hn hzj hall hnext
    obtain ⟨z, hz, hcase⟩ := hH n hn zj hzj
    refine rs_st (cmp := am_cmp) wk_q101 (show wk_at wk_m101 2 3 0 1 0 0 = true by decide +kernel) rfl ?_
    refine rs_st (cmp := am_cmp) wk_q101 (show wk_at wk_m101 3 2 1 1 0 0 = true by decide +kernel) rfl ?_
    refine rs_st (cmp := am_cmp) wk_q101 (show wk_at wk_m101 4 2 2 1 0 0 = true by decide +kernel) rfl ?_
    refine rs_st (cmp := am_cmp) wk_q101 (show wk_at wk_m101 5 2 3 1 0 0 = true by decide +kernel) rfl ?_
    refine rs_iv (as := [.int zn, .int zl, .int zj]) (r := []) wk_q101 (show wk_at wk_m101 6 40 100 3 2 9 = true by decide +kernel) hI hu0 hk40 rfl rfl (Nat.le_of_ble_eq_true rfl) (mj := am_m100) rfl ⟨by decide, by decide, Nat.le_of_ble_eq_true rfl⟩ ?_
    refine Rn_mono hz (fun r hr => ?_)
    subst hr
    refine ⟨_, _, _, _, rfl, ?_⟩
    show cl_Rn am_m101 (9, [some (.ref (u 40)), some (.int zn), some (.int zl), some (.int zj)], [.int z], h, 0, 0) Q
    cases hc : wk_c 2 z 0 with
    | true =>
      refine rs_ift wk_q101 (show wk_at wk_m101 9 22 2 18 0 0 = true by decide +kernel) hc ?_
      refine rs_st (cmp := am_cmp) wk_q101 (show wk_at wk_m101 18 2 3 1 0 0 = true by decide +kernel) rfl ?_
      refine rs_en (cmp := am_cmp) wk_q101 (show wk_at wk_m101 19 44 0 0 0 0 = true by decide +kernel) ?_ (hQ n zj hn hzj hall)
      simp only [wk_ex]
      rw [if_pos (Or.inl trivial)]
    | false =>
      have hz0 : 2147483648 ≤ ab_b z := by
        have hc : decide (z < 0) = false := hc
        have := of_decide_eq_false hc
        rw [ab_b_lti, ab_b_0] at this
        omega
      rcases hcase with h1 | ⟨h1, h2⟩
      · omega
      · refine rs_iff wk_q101 (show wk_at wk_m101 9 22 2 18 0 0 = true by decide +kernel) hc ?_
        refine rs_st (cmp := am_cmp) wk_q101 (show wk_at wk_m101 12 6 3 1 0 0 = true by decide +kernel) rfl ?_
        refine rs_st (cmp := am_cmp) wk_q101 (show wk_at wk_m101 15 21 2 0 0 0 = true by decide +kernel) rfl ?_
        refine hnext h1 (fun b hb zb hzb => ?_)
        by_cases e : b = n
        · subst e
          have : zb = zj := ab_b_inj (by rw [hzb, hzj])
          subst this
          exact ⟨z, hz, hz0, h2⟩
        · exact hall b (by omega) zb hzb
  intro d
  induction d with
  | zero =>
    intro n zj hd hzj hall
    exact body n zj (by omega) hzj hall (fun hlt => absurd hlt (by omega))
  | succ d ih =>
    intro n zj hd hzj hall
    refine body n zj (by omega) hzj hall (fun hlt hall' => ih (n + 1) (zj + Int32.ofNat 1) (by omega) ?_ hall')
    rw [md_a] at hzj
    have hinc := ab_b_add (x := zj) (y := Int32.ofNat 1) (by omega) (by omega)
    rw [md_a]
    omega
