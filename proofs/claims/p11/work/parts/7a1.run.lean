/-! ===== run ===== -/
section RSX
variable {fty : Nat → Nat → Option FieldType} {dfl : Nat → Option (List Value)} {cmp : Nat → Option (Option Nat)} {lk : Nat → Nat → Option am_K} {ms : Nat → Option am_M} {cx : Nat → Option Nat}
variable {tls : Nat → List Nat} {mi : am_M} {mf : fm_M} {pc a b c d k q : Nat} {lo : List (Option Value)} {h h0 : am_H} {Q : am_R → Prop}
/-- a call that may throw -/
theorem rs_cax (hmf : wk_mck fty lk tls mi mf = true) (hw : wk_at mf pc 40 a b c d = true) {st : List Value} {mj : am_M} {as : List Value} {S' : am_S} (hx : wk_ex tls cmp 40 a b c d pc lo st h k q = some (.inr (.inr (a, as, S')))) (hj : ms a = some mj) (hroom : am_f mj + 1 ≤ am_f mi ∧ 8 + (am_L mj + 11) + am_w mj ≤ am_w mi ∧ as.length ≤ am_L mj) {ix n : Nat} {kk : am_K} (hi : am_ins (am_c mi) S'.1 = some (.invokevirtual ix, n)) (hl : lk (am_o mi) ix = some kk) (h20 : kk.1 = 20) (hc : Rn fty dfl cmp lk ms cx mj (0, as.map some ++ List.replicate (am_L mj - as.length) none, [], S'.2.2.2.1, 0, 0) (fun r => (∃ v h' k' q', r = (.inl v, h', k', q') ∧ Rn fty dfl cmp lk ms cx mi (S'.1 + 3, S'.2.1, v.toList ++ S'.2.2.1, h', S'.2.2.2.2.1 + k', S'.2.2.2.2.2 + q') Q) ∨ (∃ x h' k' q' c t, r = (.inr x, h', k', q') ∧ h'[x]? = some c ∧ am_catch cx (am_h mi) S'.1 c.1 = some t ∧ Rn fty dfl cmp lk ms cx mi (t, S'.2.1, [.ref x], h', S'.2.2.2.2.1 + k', S'.2.2.2.2.2 + q') Q))) : Rn fty dfl cmp lk ms cx mi (pc, lo, st, h, k, q) Q := by
  obtain ⟨f1, r1, hr1, hc⟩ := hc
  rcases hc with ⟨v, h', k', q', rfl, f2, r2, hr2, hQ⟩ | ⟨x, h', k', q', c, t, rfl, hx', hct, f2, r2, hr2, hQ⟩
  · exact ⟨_, r2, ab_runc (rs_am hmf hw hx) hj hroom hr1 hr2, hQ⟩
  · exact ⟨_, r2, ab_runx (rs_am hmf hw hx) hj hroom hr1 hi hl h20 hx' hct hr2, hQ⟩
variable {kd : Nat → Nat × Nat} {un : Nat → Bool} {Gm : Nat → Nat → List ab_V} {τ : Nat → Nat} {tv : Nat}
theorem rs_ivx (hmf : wk_mck fty lk tls mi mf = true) (hw : wk_at mf pc 40 a b 2 d = true) {x : Nat} {r as : List Value} {mj : am_M} (hI : ab_I kd un Gm τ tv h) (hx : τ x ≠ 0) (hk : (kd (τ x)).1 = d) (hb : as.length = b) (ho : am_one as = true) (hr : am_cat r ≤ 8) (hj : ms a = some mj) (hroom : am_f mj + 1 ≤ am_f mi ∧ 8 + (am_L mj + 11) + am_w mj ≤ am_w mi ∧ as.length + 1 ≤ am_L mj) {ix n : Nat} {kk : am_K} (hi : am_ins (am_c mi) pc = some (.invokevirtual ix, n)) (hl : lk (am_o mi) ix = some kk) (h20 : kk.1 = 20) (hc : Rn fty dfl cmp lk ms cx mj (0, (.ref x :: as).map some ++ List.replicate (am_L mj - (as.length + 1)) none, [], h, 0, 0) (fun r' => (∃ v h' k' q', r' = (.inl v, h', k', q') ∧ Rn fty dfl cmp lk ms cx mi (pc + 3, lo, v.toList ++ r, h', k + k', q + q') Q) ∨ (∃ x h' k' q' c t, r' = (.inr x, h', k', q') ∧ h'[x]? = some c ∧ am_catch cx (am_h mi) pc c.1 = some t ∧ Rn fty dfl cmp lk ms cx mi (t, lo, [.ref x], h', k + k', q + q') Q))) : Rn fty dfl cmp lk ms cx mi (pc, lo, as.reverse ++ .ref x :: r, h, k, q) Q := by
  obtain ⟨vs, h1, -, -⟩ := hI x hx
  have e1 : (as.reverse ++ .ref x :: r).take b = as.reverse := by
    rw [List.take_append_of_le_length (by rw [List.length_reverse]; omega), List.take_of_length_le (by rw [List.length_reverse]; omega)]
  have e2 : (as.reverse ++ .ref x :: r).drop b = .ref x :: r := by
    rw [List.drop_append_of_le_length (by rw [List.length_reverse]; omega), List.drop_of_length_le (by rw [List.length_reverse]; omega)]
    rfl
  have hx' : wk_ex tls cmp 40 a b 2 d pc lo (as.reverse ++ .ref x :: r) h k q = some (.inr (.inr (a, .ref x :: as, (pc, lo, r, h, k, q)))) := by
    have := ab_ask2 (kk := (0, a, b, (d : Int))) (rc := 2) (y := x) (r := r) (st := as.reverse ++ .ref x :: r) (pc := pc) (lo' := lo) (k := k) (q := q) (by decide) (by show ((as.reverse ++ .ref x :: r).take b).reverse.length = b; rw [e1, List.reverse_reverse]; exact hb) e2 hr (by show am_one ((as.reverse ++ .ref x :: r).take b).reverse = true; rw [e1, List.reverse_reverse]; exact ho) h1 (Or.inr (by show (((kd (τ x)).1 : Nat) : Int) = (d : Int); rw [hk]))
    show am_ask (0, a, b, (d : Int)) 2 pc lo (as.reverse ++ .ref x :: r) h k q = _
    rw [this]
    show some (Sum.inr (Sum.inr (a, .ref x :: ((as.reverse ++ .ref x :: r).take b).reverse, (pc, lo, r, h, k, q)))) = _
    rw [e1, List.reverse_reverse]
  exact rs_cax hmf hw hx' hj hroom hi hl h20 hc
end RSX
/-- with a cell more -/
theorem j_app {τ u : Nat → Nat} {mc Tc Tm : Nat} {h : am_H} (hut : ∀ k, w_uq k = true → τ (u k) = k) (hJ : j_J τ u mc Tc Tm h) (c : am_C) : j_J τ u mc Tc Tm (h ++ [c]) := by
  obtain ⟨i1, i2, i3, i4, i5, i6, i7⟩ := hJ
  have e : ∀ a i, τ a ≠ 0 → ab_sl (h ++ [c]) a i = ab_sl h a i := fun a i ha => ab_sl_app (ab_typed i1 ha)
  have eu : ∀ k i, w_uq k = true → k ≠ 0 → ab_sl (h ++ [c]) (u k) i = ab_sl h (u k) i := fun k i hk hk0 => e _ _ (by rw [hut k hk]; exact hk0)
  have et : ∀ {k i T}, w_uq k = true → k ≠ 0 → j_t h (u k) i T → j_t (h ++ [c]) (u k) i T := fun {k i T} hk hk0 ⟨z, hz, hT⟩ => ⟨z, by rw [eu k i hk hk0]; exact hz, hT⟩
  refine ⟨fun a ha => ?_, fun a ha => ?_, ?_, et (by decide +kernel) (by decide) i4, et (by decide +kernel) (by decide) i5, et (by decide +kernel) (by decide) i6, fun i hi => ?_⟩
  · obtain ⟨vs, h1, h2⟩ := i1 a ha
    exact ⟨vs, by rw [List.getElem?_append_left (ab_typed i1 ha)]; exact h1, h2⟩
  · have h0 : τ a ≠ 0 := by rw [ha]; decide
    rw [e a _ h0, e a _ h0, e a _ h0]
    exact i2 a ha
  · refine km_same (fun k hk i => ?_) (eu 40 19 (by decide +kernel) (by decide)) i3
    simp only [List.mem_cons, List.not_mem_nil, or_false] at hk
    rcases hk with rfl | rfl | rfl | rfl | rfl | rfl | rfl | rfl | rfl <;> exact eu _ _ (by decide +kernel) (by decide)
  · obtain ⟨y, z1, z2, h1, h2, h3, h4, h5⟩ := i7 i hi
    have hl : ∀ {a i v}, ab_sl h a i = some v → a < h.length := fun {a i v} hv => by
      by_cases hlt : a < h.length
      · exact hlt
      · unfold ab_sl at hv
        rw [List.getElem?_eq_none (by omega)] at hv
        cases hv
    exact ⟨y, z1, z2, by rw [ab_sl_app (hl h1)]; exact h1, by rw [ab_sl_app (hl h2)]; exact h2, by rw [ab_sl_app (hl h3)]; exact h3, by rw [ab_sl_app (hl h4)]; exact h4, by rw [ab_sl_app (hl h5)]; exact h5⟩
/-- a tick's contract -/
def j_tok (M n i : Nat) : List ab_C → Bool
  | C :: _ => ab_eqL C.1 [(1, n, 0)] && Nat.beq (Nat.land C.2.2.2.1 M) C.2.2.2.1 && (match C.2.1, C.2.2.1 with
    | [f], [e] => Nat.beq f.1 n && Nat.beq f.2.1 i && ab_eqV f.2.2 (7, 0, 0) && Nat.beq e.1 0 && (match e.2.2 with
      | [g] => Nat.beq g.1 n && Nat.beq g.2.1 i && ab_eqV g.2.2 (7, 1, 0)
      | _ => false)
    | _, _ => false) && Nat.beq C.2.2.2.2.2.2.1 0 && Nat.beq C.2.2.2.2.2.2.2 0
  | [] => false
theorem j_f7 {f : ab_F} {n i : Nat} {v : ab_V} (h : (Nat.beq f.1 n && Nat.beq f.2.1 i && ab_eqV f.2.2 v) = true) : f = (n, i, v) := by
  obtain ⟨h1, h3⟩ := ab_a2 h
  obtain ⟨h1, h2⟩ := ab_a2 h1
  obtain ⟨a, b, c⟩ := f
  have h1 : a = n := ab_beq h1
  have h2 : b = i := ab_beq h2
  have h3 : c = v := ab_eqV_d h3
  rw [h1, h2, h3]
theorem j_tickr {τ u : Nat → Nat} {mc tv j κ i M : Nat} {K : am_H → Prop} {P0 P1 : am_H → Nat} {Cs : List ab_C} {mj : am_M} {h : am_H} (hmc : mc < 9) (hut : ∀ k, w_uq k = true → τ (u k) = k) (hκ : w_uq κ = true) (hκ0 : κ ≠ 0) (hr : 16 * κ ≠ 353) (hok : j_tok M (16 * κ) i Cs = true) (hV : ∀ C ∈ Cs, ab_Vd am_fty am_dfl am_cmp am_lk am_ms am_cx w_kd w_un w_uq (w_G mc) τ u tv K P0 P1 j C) (hj : am_ms j = some mj) (hI : ab_I w_kd w_un (w_G mc) τ 2147483648 h) (hK : K h) (ht : j_t h (u κ) i tv) : cl_Rn mj (0, [some (.ref (u κ))] ++ List.replicate (am_L mj - 1) none, [], h, 0, 0) (fun r => ∃ h', r = (.inl none, h', 0, 0) ∧ ab_I w_kd w_un (w_G mc) τ 2147483648 h' ∧ K h' ∧ ab_Fr w_kd τ M h h' ∧ h'.length = h.length ∧ j_t h' (u κ) i (tv + 1)) := by
  have e16 : 16 * κ / 16 = κ := by omega
  have er : kc_rho u 0 (16 * κ) = u κ := by
    unfold kc_rho
    rw [if_neg hr, e16]
  match Cs, hok with
  | C :: _, hok =>
    obtain ⟨hok, hq⟩ := ab_a2 hok
    obtain ⟨hok, hk⟩ := ab_a2 hok
    obtain ⟨hok, hf⟩ := ab_a2 hok
    obtain ⟨ha, hm⟩ := ab_a2 hok
    have ha := ab_eqL_d ha
    obtain ⟨zt, hzt, htt⟩ := ht
    have hV := hV C List.mem_cons_self
    obtain ⟨cA, cF, cE, cw, cg⟩ := C
    match cF, cE, hf with
    | [f], [e], hf =>
      obtain ⟨hf, he⟩ := ab_a2 hf
      obtain ⟨hf, he0⟩ := ab_a2 hf
      have hf := j_f7 hf
      subst hf
      have he0 : e.1 = 0 := ab_beq he0
      have ha : cA = [(1, 16 * κ, 0)] := ha
      subst ha
      refine Rn_mono (hV mj hj (kc_rho u 0) h [.ref (u κ)] kc_rho_ad (ab_I_tv hmc hI) hK ⟨Or.inr ⟨by rw [er], by rw [er, e16]; exact hut κ hκ, by rw [e16]; exact hκ0⟩, trivial⟩ (fun g hg => ?_)) (fun r hr => ?_)
      · have := List.mem_singleton.mp hg
        subst this
        exact ⟨by show τ (kc_rho u 0 (16 * κ)) = 16 * κ / 16; rw [er, e16]; exact hut κ hκ, by show 16 * κ / 16 ≠ 0; rw [e16]; exact hκ0, .int zt, by show ab_sl h (kc_rho u 0 (16 * κ)) i = _; rw [er]; exact hzt, zt, rfl, htt⟩
      · obtain ⟨rv, h', k', q'⟩ := r
        obtain ⟨e', hem, hend, hH, hfb⟩ := hr
        have := List.mem_singleton.mp hem
        subst this
        obtain ⟨c1, c2, c3, c4, -, -, c7, c8⟩ := hH
        have hk : cg.2.2.1 = 0 := ab_beq hk
        have hq : cg.2.2.2 = 0 := ab_beq hq
        have c7 : k' ≤ cg.2.2.1 := c7
        have c8 : q' ≤ cg.2.2.2 := c8
        have c4 : h'.length = h.length + k' := c4
        obtain rfl : k' = 0 := by omega
        obtain rfl : q' = 0 := by omega
        rcases hend with ⟨-, hv⟩ | ⟨h1, -⟩ | ⟨h1, -⟩
        rotate_left
        · rw [he0] at h1; cases h1
        · rw [he0] at h1; cases h1
        have hv : rv = .inl none := hv
        subst hv
        refine ⟨h', rfl, ab_I_tv hmc c1, c2, j_sub hm c3, c4, ?_⟩
        revert he hfb
        match e'.2.2 with
        | [] => intro g _; cases g
        | [g] =>
          intro hg hfb
          have := hfb g List.mem_cons_self
          rw [j_f7 hg] at this
          obtain ⟨-, -, x, hx, z, rfl, hz⟩ := this
          refine ⟨z, ?_, hz⟩
          have hx : ab_sl h' (u (16 * κ / 16)) i = some (.int z) := hx
          rw [e16] at hx
          exact hx
        | _ :: _ :: _ => intro g _; cases g
theorem j_tc : ∀ mc, mc < 9 → j_tok j_mct (16 * 1) 6 (w_Ct mc 33 [(1, 16, 0)]) = true := by decide +kernel
theorem j_tm : j_tok j_mrt (16 * 40) 1 (wa_Ct 0 126 [(1, 640, 0)]) = true := by decide +kernel
/-- a tick of the class -/
theorem j_tickc {τ u : Nat → Nat} {mc Tc Tm : Nat} {h : am_H} (hmc : mc < 9) (hT : 2147483648 ≤ Tc ∧ Tc ≤ 2147523647) (hU : ab_U w_uq τ u) (hut : ∀ k, w_uq k = true → τ (u k) = k) (hJ : j_J τ u mc Tc Tm h) : cl_Rn am_m33 (0, [some (.ref (u 1))] ++ List.replicate (am_L am_m33 - 1) none, [], h, 0, 0) (fun r => ∃ h', r = (.inl none, h', 0, 0) ∧ j_J τ u mc (Tc + 1) Tm h' ∧ h'.length = h.length) := by
  refine Rn_mono (j_tickr (κ := 1) (i := 6) (M := j_mct) hmc hut (by decide +kernel) (by decide) (by decide) (j_tc mc hmc) (fun C hC => cl_all hmc hT hU hut 33 _ C hC) rfl hJ.1 hJ.2.1 hJ.2.2.2.2.1) (fun r hr => ?_)
  obtain ⟨h', rfl, c1, c2, c3, c4, c5⟩ := hr
  exact ⟨h', rfl, j_cls hmc hut hJ c1 c2 c3 c5, c4⟩
/-- a tick of the reference -/
theorem j_tickm {τ u : Nat → Nat} {mc Tc Tm : Nat} {h : am_H} (hmc : mc < 9) (hT : 2147483648 ≤ Tm ∧ Tm ≤ 2147523647) (hU : ab_U w_uq τ u) (hut : ∀ k, w_uq k = true → τ (u k) = k) (hJ : j_J τ u mc Tc Tm h) : cl_Rn am_m126 (0, [some (.ref (u 40))] ++ List.replicate (am_L am_m126 - 1) none, [], h, 0, 0) (fun r => ∃ h', r = (.inl none, h', 0, 0) ∧ j_J τ u mc Tc (Tm + 1) h' ∧ h'.length = h.length) := by
  by_cases e : mc = 0
  · subst e
    refine Rn_mono (j_tickr (κ := 40) (i := 1) (M := j_mrt) hmc hut (by decide +kernel) (by decide) (by decide) j_tm (fun C hC => ma_all hmc hT hU hut 126 _ C hC) rfl hJ.1 hJ.2.2.1 hJ.2.2.2.2.2.1) (fun r hr => ?_)
    obtain ⟨h', rfl, c1, c2, c3, c4, c5⟩ := hr
    have h19 : j_t h' (u 40) 19 2147483648 := by
      obtain ⟨z, hz, z1, z2⟩ := md_fld hut c1 (i := 19) (lo := Nat.add 2147483648 0) (hi := Nat.add 2147483648 0) (by decide) rfl
      rw [md_a] at z1 z2
      exact ⟨z, hz, by omega⟩
    exact ⟨h', rfl, j_ref hmc hut hJ c1 c2 c3 h19 c5, c4⟩
  · obtain ⟨zw, hzw, hw⟩ := hJ.2.2.2.1
    obtain ⟨zt, hzt, ht⟩ := hJ.2.2.2.2.2.1
    refine Rn_mono (ma_tick e hmc hT hU hut (ab_I_tv hmc hJ.1) hJ.2.2.1 hzw hw hzt ht) (fun r hr => ?_)
    obtain ⟨h', zw', zt', rfl, ⟨c1, c2, c3⟩, cK, cw, cw0, ct, ctt⟩ := hr
    exact ⟨h', rfl, j_ref hmc hut hJ (ab_I_tv hmc c1) cK (j_sub (by decide +kernel) c2) ⟨zw', cw, cw0⟩ ⟨zt', ct, ctt⟩, c3⟩
/-- is it a number of ticks -/
def j_n (z : Int32) : Nat := if 2147483649 ≤ ab_b z ∧ ab_b z ≤ 2147483708 then ab_b z - 2147483648 else 0
set_option maxRecDepth 100000 in
theorem jc_run_loop {τ u : Nat → Nat} {mc Tc Tm : Nat} (hmc : mc < 9) (hU : ab_U w_uq τ u) (hut : ∀ k, w_uq k = true → τ (u k) = k) {zn zb : Int32} {n : Nat} (hn : ab_b zn = 2147483648 + n) (n60 : n ≤ 60) (hT : 2147483648 ≤ Tc ∧ Tc + 60 ≤ 2147523647) {L : Nat} {Q : am_R → Prop} (hQ : ∀ (zi : Int32) hx, j_J τ u mc (Tc + n) Tm hx → hx.length = L → cl_Rn am_m29 (43, [some (.ref (u 1)), some (.int zn), some (.int zb), some (.int zi)], [], hx, 0, 0) Q) : ∀ (d i : Nat) (zi : Int32) (hx : am_H), i + d = n → ab_b zi = 2147483648 + i → j_J τ u mc (Tc + i) Tm hx → hx.length = L → cl_Rn am_m29 (28, [some (.ref (u 1)), some (.int zn), some (.int zb), some (.int zi)], [], hx, 0, 0) Q := by
  have hu : τ (u 1) = 1 := hut 1 (by decide +kernel)
  have hu0 : τ (u 1) ≠ 0 := by rw [hu]; decide
  have hkk : (w_kd (τ (u 1))).1 = 0 := by rw [hu]; rfl
  have c1 : ab_b (Int32.ofNat 1) = 2147483649 := by decide
  intro d
  induction d with
  | zero =>
    intro i zi hx hd hzi hJ hl
    refine rs_st (cmp := am_cmp) wk_q29 (show wk_at wk_m29 28 2 3 1 0 0 = true by decide +kernel) rfl ?_
    refine rs_st (cmp := am_cmp) wk_q29 (show wk_at wk_m29 29 2 1 1 0 0 = true by decide +kernel) rfl ?_
    refine rs_ict wk_q29 (show wk_at wk_m29 30 23 3 43 0 0 = true by decide +kernel) (by show decide (zn ≤ zi) = true; exact decide_eq_true (ab_b_lei.mpr (by omega))) ?_
    have : i = n := by omega
    subst this
    exact hQ zi hx hJ hl
  | succ d ih =>
    intro i zi hx hd hzi hJ hl
    have hinc := ab_b_add (x := zi) (y := Int32.ofNat 1) (by omega) (by omega)
    refine rs_st (cmp := am_cmp) wk_q29 (show wk_at wk_m29 28 2 3 1 0 0 = true by decide +kernel) rfl ?_
    refine rs_st (cmp := am_cmp) wk_q29 (show wk_at wk_m29 29 2 1 1 0 0 = true by decide +kernel) rfl ?_
    refine rs_icf wk_q29 (show wk_at wk_m29 30 23 3 43 0 0 = true by decide +kernel) (by show decide (zn ≤ zi) = false; exact decide_eq_false (fun hle => by have := ab_b_lei.mp hle; omega)) ?_
    refine rs_st (cmp := am_cmp) wk_q29 (show wk_at wk_m29 33 3 0 1 0 0 = true by decide +kernel) rfl ?_
    refine rs_iv (as := []) (r := []) wk_q29 (show wk_at wk_m29 34 40 33 0 2 0 = true by decide +kernel) hJ.1 hu0 hkk rfl rfl (Nat.le_of_ble_eq_true rfl) (mj := am_m33) rfl ⟨by decide, by decide, Nat.le_of_ble_eq_true rfl⟩ ?_
    refine Rn_mono (j_tickc hmc (by omega) hU hut hJ) (fun r hr => ?_)
    obtain ⟨h', rfl, hJ', hl'⟩ := hr
    refine ⟨none, h', 0, 0, rfl, ?_⟩
    refine rs_st (cmp := am_cmp) wk_q29 (show wk_at wk_m29 37 6 3 1 0 0 = true by decide +kernel) rfl ?_
    refine rs_st (cmp := am_cmp) wk_q29 (show wk_at wk_m29 40 21 28 0 0 0 = true by decide +kernel) rfl ?_
    exact ih (i + 1) (zi + Int32.ofNat 1) h' (by omega) (by omega) hJ' (by omega)
set_option maxRecDepth 100000 in
theorem jm_run_loop {τ u : Nat → Nat} {mc Tc Tm : Nat} (hmc : mc < 9) (hU : ab_U w_uq τ u) (hut : ∀ k, w_uq k = true → τ (u k) = k) {zn zb : Int32} {n : Nat} (hn : ab_b zn = 2147483648 + n) (n60 : n ≤ 60) (hT : 2147483648 ≤ Tm ∧ Tm + 60 ≤ 2147523647) {L : Nat} {Q : am_R → Prop} (hQ : ∀ (zi : Int32) hx, j_J τ u mc Tc (Tm + n) hx → hx.length = L → cl_Rn am_m119 (48, [some (.ref (u 40)), some (.int zn), some (.int zb), some (.int zi)], [], hx, 0, 0) Q) : ∀ (d i : Nat) (zi : Int32) (hx : am_H), i + d = n → ab_b zi = 2147483648 + i → j_J τ u mc Tc (Tm + i) hx → hx.length = L → cl_Rn am_m119 (33, [some (.ref (u 40)), some (.int zn), some (.int zb), some (.int zi)], [], hx, 0, 0) Q := by
  have hu : τ (u 40) = 40 := hut 40 (by decide +kernel)
  have hu0 : τ (u 40) ≠ 0 := by rw [hu]; decide
  have hkk : (w_kd (τ (u 40))).1 = 9 := by rw [hu]; rfl
  have c1 : ab_b (Int32.ofNat 1) = 2147483649 := by decide
  intro d
  induction d with
  | zero =>
    intro i zi hx hd hzi hJ hl
    refine rs_st (cmp := am_cmp) wk_q119 (show wk_at wk_m119 33 2 3 1 0 0 = true by decide +kernel) rfl ?_
    refine rs_st (cmp := am_cmp) wk_q119 (show wk_at wk_m119 34 2 1 1 0 0 = true by decide +kernel) rfl ?_
    refine rs_ict wk_q119 (show wk_at wk_m119 35 23 3 48 0 0 = true by decide +kernel) (by show decide (zn ≤ zi) = true; exact decide_eq_true (ab_b_lei.mpr (by omega))) ?_
    have : i = n := by omega
    subst this
    exact hQ zi hx hJ hl
  | succ d ih =>
    intro i zi hx hd hzi hJ hl
    have hinc := ab_b_add (x := zi) (y := Int32.ofNat 1) (by omega) (by omega)
    refine rs_st (cmp := am_cmp) wk_q119 (show wk_at wk_m119 33 2 3 1 0 0 = true by decide +kernel) rfl ?_
    refine rs_st (cmp := am_cmp) wk_q119 (show wk_at wk_m119 34 2 1 1 0 0 = true by decide +kernel) rfl ?_
    refine rs_icf wk_q119 (show wk_at wk_m119 35 23 3 48 0 0 = true by decide +kernel) (by show decide (zn ≤ zi) = false; exact decide_eq_false (fun hle => by have := ab_b_lei.mp hle; omega)) ?_
    refine rs_st (cmp := am_cmp) wk_q119 (show wk_at wk_m119 38 3 0 1 0 0 = true by decide +kernel) rfl ?_
    refine rs_iv (as := []) (r := []) wk_q119 (show wk_at wk_m119 39 40 126 0 2 9 = true by decide +kernel) hJ.1 hu0 hkk rfl rfl (Nat.le_of_ble_eq_true rfl) (mj := am_m126) rfl ⟨by decide, by decide, Nat.le_of_ble_eq_true rfl⟩ ?_
    refine Rn_mono (j_tickm hmc (by omega) hU hut hJ) (fun r hr => ?_)
    obtain ⟨h', rfl, hJ', hl'⟩ := hr
    refine ⟨none, h', 0, 0, rfl, ?_⟩
    refine rs_st (cmp := am_cmp) wk_q119 (show wk_at wk_m119 42 6 3 1 0 0 = true by decide +kernel) rfl ?_
    refine rs_st (cmp := am_cmp) wk_q119 (show wk_at wk_m119 45 21 33 0 0 0 = true by decide +kernel) rfl ?_
    exact ih (i + 1) (zi + Int32.ofNat 1) h' (by omega) (by omega) hJ' (by omega)
/-- the class's run -/
def jc_rq (τ u : Nat → Nat) (mc Tc Tm : Nat) (zn : Int32) (h : am_H) (r : am_R) : Prop := (∃ z h', r = (.inl (some (.int z)), h', 0, 0) ∧ j_J τ u mc (Tc + j_n zn) Tm h' ∧ h'.length = h.length) ∨ (r = (.inr h.length, h ++ [(10, [])], 1, 6) ∧ j_n zn = 0)
set_option maxRecDepth 100000 in
theorem jc_run {τ u : Nat → Nat} {mc Tc Tm : Nat} (hmc : mc < 9) (hU : ab_U w_uq τ u) (hut : ∀ k, w_uq k = true → τ (u k) = k) (hT : 2147483648 ≤ Tc ∧ Tc + 60 ≤ 2147523647) {h : am_H} (hJ : j_J τ u mc Tc Tm h) (zn : Int32) : cl_Rn am_m29 (0, [some (.ref (u 1)), some (.int zn), none, none], [], h, 0, 0) (jc_rq τ u mc Tc Tm zn h) := by
  have hu : τ (u 1) = 1 := hut 1 (by decide +kernel)
  have hu0 : τ (u 1) ≠ 0 := by rw [hu]; decide
  have hkk : (w_kd (τ (u 1))).1 = 0 := by rw [hu]; rfl
  have c0 : ab_b (Int32.ofNat (1 / 8)) = 2147483648 := by decide
  have c1 : ab_b (Int32.ofNat (9 / 8)) = 2147483649 := by decide
  have c60 : ab_b (Int32.ofNat (481 / 8)) = 2147483708 := by decide
  have thr : ab_b zn < 2147483649 ∨ 2147483708 < ab_b zn → cl_Rn am_m29 (11, [some (.ref (u 1)), some (.int zn), none, none], [], h, 0, 0) (jc_rq τ u mc Tc Tm zn h) := fun hz => by
    refine rs_en (cmp := am_cmp) wk_q29 (show wk_at wk_m29 11 39 10 0 0 0 = true by decide +kernel) rfl (Or.inr ⟨rfl, ?_⟩)
    unfold j_n
    rw [if_neg (by omega)]
  refine rs_st (cmp := am_cmp) wk_q29 (show wk_at wk_m29 0 2 1 1 0 0 = true by decide +kernel) rfl ?_
  refine rs_st (cmp := am_cmp) wk_q29 (show wk_at wk_m29 1 1 9 1 0 0 = true by decide +kernel) rfl ?_
  by_cases e1 : ab_b zn < 2147483649
  · refine rs_ict wk_q29 (show wk_at wk_m29 2 23 2 11 0 0 = true by decide +kernel) (by show decide (zn < Int32.ofNat (9 / 8)) = true; exact decide_eq_true (ab_b_lti.mpr (by omega))) ?_
    exact thr (Or.inl e1)
  refine rs_icf wk_q29 (show wk_at wk_m29 2 23 2 11 0 0 = true by decide +kernel) (by show decide (zn < Int32.ofNat (9 / 8)) = false; exact decide_eq_false (fun hle => e1 (by have := ab_b_lti.mp hle; omega))) ?_
  refine rs_st (cmp := am_cmp) wk_q29 (show wk_at wk_m29 5 2 1 1 0 0 = true by decide +kernel) rfl ?_
  refine rs_st (cmp := am_cmp) wk_q29 (show wk_at wk_m29 6 1 481 2 0 0 = true by decide +kernel) rfl ?_
  by_cases e2 : 2147483708 < ab_b zn
  · refine rs_icf wk_q29 (show wk_at wk_m29 8 23 5 21 0 0 = true by decide +kernel) (by show decide (zn ≤ Int32.ofNat (481 / 8)) = false; exact decide_eq_false (fun hle => by have := ab_b_lei.mp hle; omega)) ?_
    exact thr (Or.inr e2)
  refine rs_ict wk_q29 (show wk_at wk_m29 8 23 5 21 0 0 = true by decide +kernel) (by show decide (zn ≤ Int32.ofNat (481 / 8)) = true; exact decide_eq_true (ab_b_lei.mpr (by omega))) ?_
  obtain ⟨n, hn⟩ : ∃ n, ab_b zn = 2147483648 + n := ⟨ab_b zn - 2147483648, by omega⟩
  obtain ⟨zb, hzb, -, -⟩ := kc_int hJ.1 hu (by decide) (i := 7) (by decide) (lo := 0) (hi := 4294967295) rfl
  have hjn : j_n zn = n := by
    unfold j_n
    rw [if_pos (by omega), hn]
    exact Nat.add_sub_cancel_left ..
  refine rs_st (cmp := am_cmp) wk_q29 (show wk_at wk_m29 21 3 0 1 0 0 = true by decide +kernel) rfl ?_
  refine rs_get (cmp := am_cmp) wk_q29 (show wk_at wk_m29 22 25 0 7 0 0 = true by decide +kernel) hJ.1 hu0 hkk hzb ?_
  refine rs_st (cmp := am_cmp) wk_q29 (show wk_at wk_m29 25 4 2 1 0 0 = true by decide +kernel) rfl ?_
  refine rs_st (cmp := am_cmp) wk_q29 (show wk_at wk_m29 26 1 1 1 0 0 = true by decide +kernel) rfl ?_
  refine rs_st (cmp := am_cmp) wk_q29 (show wk_at wk_m29 27 4 3 1 0 0 = true by decide +kernel) rfl ?_
  refine jc_run_loop hmc hU hut hn (by omega) hT (L := h.length) (fun zi hx hJx hlx => ?_) n 0 (Int32.ofNat (1 / 8)) h (by omega) (by omega) hJ rfl
  obtain ⟨zc, hzc, -, -⟩ := kc_int hJx.1 hu (by decide) (i := 7) (by decide) (lo := 0) (hi := 4294967295) rfl
  refine rs_st (cmp := am_cmp) wk_q29 (show wk_at wk_m29 43 3 0 1 0 0 = true by decide +kernel) rfl ?_
  refine rs_get (cmp := am_cmp) wk_q29 (show wk_at wk_m29 44 25 0 7 0 0 = true by decide +kernel) hJx.1 hu0 hkk hzc ?_
  refine rs_st (cmp := am_cmp) wk_q29 (show wk_at wk_m29 47 2 2 1 0 0 = true by decide +kernel) rfl ?_
  refine rs_st (cmp := am_cmp) wk_q29 (show wk_at wk_m29 48 8 0 0 0 0 = true by decide +kernel) rfl ?_
  refine rs_en (cmp := am_cmp) wk_q29 (show wk_at wk_m29 49 44 0 0 0 0 = true by decide +kernel) rfl (Or.inl ⟨_, hx, rfl, ?_, hlx⟩)
  rw [hjn]
  exact hJx
/-- the law's own row -/
theorem jl_las {τ u : Nat → Nat} {mc Tc Tm : Nat} (hmc : mc < 9) (hut : ∀ k, w_uq k = true → τ (u k) = k) {mi : am_M} {mf : fm_M} {pc k q : Nat} {lo : List (Option Value)} {h : am_H} {Q : am_R → Prop} (hmf : wk_mck am_fty am_lk wk_tls mi mf = true) (hw : wk_at mf pc 33 0 0 0 0 = true) (hJ : j_J τ u mc Tc Tm h) {x : Int64} {i : Int32} (hi : i = 0) (hn : ∀ h', j_J τ u mc Tc Tm h' → h'.length = h.length → cl_Rn mi (pc + 1, lo, [], h', k, q) Q) : cl_Rn mi (pc, lo, [.long x, .int i, .ref (u 39)], h, k, q) Q := by
  subst hi
  have hv : τ (u 39) = 39 := hut 39 (by decide +kernel)
  have hv0 : τ (u 39) ≠ 0 := by rw [hv]; decide
  have hkv : (w_kd (τ (u 39))).1 = 102 := by rw [hv]; rfl
  obtain ⟨vs, h1, h2, -⟩ := hJ.1 (u 39) hv0
  have h2 : vs.length = 1 := by rw [h2, hv]; rfl
  obtain ⟨s1, s2⟩ := rs_set (wr := j_mc) (k := 0) (v := .long x) (i := 0) ⟨hJ.1, fun a _ => ⟨fun _ => rfl, fun _ _ _ => rfl⟩, rfl⟩ hv0 h1 (by omega) (by rw [hv]; decide +kernel) (by rw [hv]; exact ⟨(4, 0, 0), List.mem_singleton_self _, x, rfl⟩)
  rw [hkv] at h1 s1 s2
  have hJ' : j_J τ u mc Tc Tm (h.set (u 39) (102, vs.set 0 (.long x))) := by
    refine j_cls hmc hut hJ s1.1 (fun a ha => ?_) (j_sub (by decide +kernel) s1.2.1) (j_tk hut hJ.1 s1.2.1 (by decide +kernel) (by decide) (by decide +kernel) hJ.2.2.2.2.1)
    have hne : a ≠ u 39 := fun e => by rw [e, hv] at ha; cases ha
    rw [s2, s2, s2, if_neg (fun z => hne z.1), if_neg (fun z => hne z.1), if_neg (fun z => hne z.1)]
    exact hJ.2.1 a ha
  refine rs_st (cmp := am_cmp) hmf hw ?_ (hn _ hJ' s1.2.2)
  simp only [wk_ex]
  rw [ab_arr h1]
  dsimp only
  have hwrt : am_wr h (u 39) 102 vs 0 (.long x) = some (h.set (u 39) (102, vs.set 0 (.long x))) := by
    unfold am_wr
    rw [if_neg (by decide), if_pos (by show (0 : Int32).toNatClampNeg < vs.length; rw [h2]; decide)]
    rfl
  rw [hwrt]
  rfl
set_option maxRecDepth 100000 in
/-- the law's run of the class -/
theorem jl_run {τ u : Nat → Nat} {mc Tc Tm : Nat} (hmc : mc < 9) (hU : ab_U w_uq τ u) (hut : ∀ k, w_uq k = true → τ (u k) = k) (hT : 2147483648 ≤ Tc ∧ Tc + 60 ≤ 2147523647) {h : am_H} (hJ : j_J τ u mc Tc Tm h) (zn : Int32) : cl_Rn am_m141 (0, [some (.ref (u 1)), some (.int zn), some (.ref (u 39)), none], [], h, 0, 0) (fun r => ∃ z h' k' q', r = (.inl (some (.int z)), h', k', q') ∧ j_J τ u mc (Tc + j_n zn) Tm h' ∧ k' ≤ 1 ∧ q' ≤ 6 ∧ h'.length = h.length + k') := by
  have hu : τ (u 1) = 1 := hut 1 (by decide +kernel)
  have hu0 : τ (u 1) ≠ 0 := by rw [hu]; decide
  have hkk : (w_kd (τ (u 1))).1 = 0 := by rw [hu]; rfl
  have hv : τ (u 39) = 39 := hut 39 (by decide +kernel)
  have hv0 : τ (u 39) ≠ 0 := by rw [hv]; decide
  have hkv : (w_kd (τ (u 39))).1 = 102 := by rw [hv]; rfl
  refine rs_st (cmp := am_cmp) wk_q141 (show wk_at wk_m141 0 3 2 1 0 0 = true by decide +kernel) rfl ?_
  refine rs_st (cmp := am_cmp) wk_q141 (show wk_at wk_m141 1 1 1 1 0 0 = true by decide +kernel) rfl ?_
  refine rs_st (cmp := am_cmp) wk_q141 (show wk_at wk_m141 2 3 0 1 0 0 = true by decide +kernel) rfl ?_
  refine rs_st (cmp := am_cmp) wk_q141 (show wk_at wk_m141 3 2 1 1 0 0 = true by decide +kernel) rfl ?_
  refine rs_ivx (as := [.int zn]) (r := [.int (Int32.ofNat (1 / 8)), .ref (u 39)]) wk_q141 (show wk_at wk_m141 4 40 29 1 2 0 = true by decide +kernel) hJ.1 hu0 hkk rfl rfl (Nat.le_of_ble_eq_true rfl) (mj := am_m29) rfl ⟨by decide, by decide, Nat.le_of_ble_eq_true rfl⟩ (ix := 33) (n := 3) (kk := (20, 29, 1, 0)) rfl rfl rfl ?_
  refine Rn_mono (jc_run hmc hU hut hT hJ zn) (fun r hr => ?_)
  rcases hr with ⟨z, h', rfl, hJ', hl⟩ | ⟨rfl, hz⟩
  · refine Or.inl ⟨some (.int z), h', 0, 0, rfl, ?_⟩
    refine rs_st (cmp := am_cmp) wk_q141 (show wk_at wk_m141 7 16 0 0 0 0 = true by decide +kernel) rfl ?_
    refine jl_las hmc hut wk_q141 (show wk_at wk_m141 8 33 0 0 0 0 = true by decide +kernel) hJ' rfl (fun h2 hJ2 hl2 => ?_)
    refine rs_st (cmp := am_cmp) wk_q141 (show wk_at wk_m141 9 21 15 0 0 0 = true by decide +kernel) rfl ?_
    refine rs_st (cmp := am_cmp) wk_q141 (show wk_at wk_m141 15 1 1 1 0 0 = true by decide +kernel) rfl ?_
    refine rs_en (cmp := am_cmp) wk_q141 (show wk_at wk_m141 16 44 0 0 0 0 = true by decide +kernel) rfl ⟨_, h2, _, _, rfl, hJ2, by omega, by omega, by omega⟩
  · refine Or.inr ⟨h.length, _, 1, 6, (10, []), 12, rfl, by rw [List.getElem?_append_right (Nat.le_refl _), Nat.sub_self]; rfl, by decide +kernel, ?_⟩
    refine rs_st (cmp := am_cmp) wk_q141 (show wk_at wk_m141 12 5 3 1 0 0 = true by decide +kernel) rfl ?_
    refine rs_st (cmp := am_cmp) wk_q141 (show wk_at wk_m141 13 1 9 1 0 0 = true by decide +kernel) rfl ?_
    refine rs_en (cmp := am_cmp) wk_q141 (show wk_at wk_m141 14 44 0 0 0 0 = true by decide +kernel) rfl ⟨_, _, _, _, rfl, by rw [hz]; exact j_app hut hJ _, by omega, by omega, by rw [List.length_append]; rfl⟩
