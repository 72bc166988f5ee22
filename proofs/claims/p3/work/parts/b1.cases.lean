/-! ===== the cases of the law ===== -/
theorem ll_jn (z : Int32) : j_n z ≤ 60 := by
  unfold j_n
  split <;> omega
set_option maxRecDepth 100000 in
theorem ll_k2 {u : Nat → Nat} {l : Nat} {kn : List (Nat × Int32)} {N : Nat} (hN : N < 512) {zi : Int32} {x : Nat → Int32} (ha : ll_a l kn zi x) {o5 o6 : Option Value} {h : am_H} {k q : Nat} (hI : ll_I u N h k q) {Q : am_R → Prop} (hn : ∀ o5 o6 h k q, ll_I u (N + 1) h k q → ll_R (ll_x l kn) (794, ll_lo u zi o5 o6, [], h, k, q) Q) : ll_R (ll_x l kn) (224, ll_lo u zi o5 o6, [], h, k, q) Q := by
  obtain ⟨hii, τ, mc, T, hmc, hU, hut, hT, hJ, hk, hq⟩ := hI
  refine ll_st ll_i224 (S' := (225, ll_lo u zi (o5) (o6), [.ref (u 1)], h, k, q)) rfl ?_
  refine ll_arg (c := 1) (zi := zi) (x := x 1) rfl rfl ll_i225 ll_i226 ll_i228 ll_i229 ll_i230 (ha 1 (by decide)).1 (ha 1 (by decide)).2 ?_
  refine ll_arg (c := 2) (zi := zi) (x := x 2) rfl rfl ll_i231 ll_i232 ll_i234 ll_i235 ll_i236 (ha 2 (by decide)).1 (ha 2 (by decide)).2 ?_
  refine ll_arg (c := 3) (zi := zi) (x := x 3) rfl rfl ll_i237 ll_i238 ll_i240 ll_i241 ll_i242 (ha 3 (by decide)).1 (ha 3 (by decide)).2 ?_
  refine ll_ca ll_i243 (j := 142) (as := [.ref (u 1), .int (x 1), .int (x 2), .int (x 3)]) (pc' := 243) (lo' := ll_lo u zi (o5) (o6)) (st' := []) (h' := h) (k1 := k) (q1 := q) rfl (mj := am_m142) rfl ⟨by decide, by decide, Nat.le_of_ble_eq_true rfl⟩ ?_
  refine Rn_mono (Rn_and (j_apic (xs := [.ref (u 1), .int (x 1), .int (x 2), .int (x 3)]) hmc hU hut (j_k142 mc hmc) rfl hJ ⟨Or.inr (ll_g1 hut), ⟨Or.inr (ll_gt), ⟨Or.inr (ll_gt), ⟨Or.inr (ll_gt), trivial⟩⟩⟩⟩) (q_apic (xs := [.ref (u 1), .int (x 1), .int (x 2), .int (x 3)]) hmc hU hut (j_q142 mc hmc) rfl hJ ⟨Or.inr (ll_g1 hut), ⟨Or.inr (ll_gt), ⟨Or.inr (ll_gt), ⟨Or.inr (ll_gt), trivial⟩⟩⟩⟩)) (fun r hr => ?_)
  obtain ⟨hr, hf1⟩ := hr
  obtain ⟨v1, h1, k1, q1, rfl, hv, hJ1, hk1, hq1, -⟩ := hr
  rcases hv with ⟨e, -⟩ | ⟨-, z1, rfl⟩
  · cases e
  · refine ⟨some (.int z1), h1, k1, q1, rfl, ?_⟩
    show ll_R (ll_x l kn) (246, ll_lo u zi (o5) (o6), [.int z1], h1, k + k1, q + q1) Q
    refine ll_st ll_i246 (S' := (248, ll_lo u zi (some (.int z1)) (o6), [], h1, k + k1, q + q1)) rfl ?_
    refine ll_st ll_i248 (S' := (249, ll_lo u zi (some (.int z1)) (o6), [.ref (u 40)], h1, k + k1, q + q1)) rfl ?_
    refine ll_arg (c := 1) (zi := zi) (x := x 1) rfl rfl ll_i249 ll_i250 ll_i252 ll_i253 ll_i254 (ha 1 (by decide)).1 (ha 1 (by decide)).2 ?_
    refine ll_arg (c := 2) (zi := zi) (x := x 2) rfl rfl ll_i255 ll_i256 ll_i258 ll_i259 ll_i260 (ha 2 (by decide)).1 (ha 2 (by decide)).2 ?_
    refine ll_arg (c := 3) (zi := zi) (x := x 3) rfl rfl ll_i261 ll_i262 ll_i264 ll_i265 ll_i266 (ha 3 (by decide)).1 (ha 3 (by decide)).2 ?_
    obtain ⟨vs2, hv2⟩ := ll_c40 hut hJ1
    refine ll_iv (as := [.int (x 1), .int (x 2), .int (x 3)]) (r := []) ll_i267 (j := 121) (b := 3) (d := 9) (by decide +kernel) hv2 rfl rfl rfl (Nat.le_of_ble_eq_true rfl) (mj := am_m121) rfl ⟨by decide, by decide, Nat.le_of_ble_eq_true rfl⟩ ?_
    refine Rn_mono (Rn_and (j_api (xs := [.ref (u 40), .int (x 1), .int (x 2), .int (x 3)]) hmc hU hut (j_k121 mc hmc) rfl hJ1 ⟨Or.inr (ll_g40 hut), ⟨Or.inr (ll_gt), ⟨Or.inr (ll_gt), ⟨Or.inr (ll_gt), trivial⟩⟩⟩⟩) (q_api (xs := [.ref (u 40), .int (x 1), .int (x 2), .int (x 3)]) hmc hU hut (j_q121 mc hmc) rfl hJ1 ⟨Or.inr (ll_g40 hut), ⟨Or.inr (ll_gt), ⟨Or.inr (ll_gt), ⟨Or.inr (ll_gt), trivial⟩⟩⟩⟩)) (fun r hr => ?_)
    obtain ⟨hr, hf2⟩ := hr
    obtain ⟨v2, h2, k2, q2, rfl, hv, hJ2, hk2, hq2, -⟩ := hr
    rcases hv with ⟨-, rfl⟩ | ⟨e, -⟩
    · refine ⟨none, h2, k2, q2, rfl, ?_⟩
      show ll_R (ll_x l kn) (270, ll_lo u zi (some (.int z1)) (o6), [], h2, k + k1 + k2, q + q1 + q2) Q
      refine ll_st ll_i270 (S' := (794, ll_lo u zi (some (.int z1)) (o6), [], h2, k + k1 + k2, q + q1 + q2)) rfl ?_
      exact hn _ _ _ _ _ ⟨(ii_k hut hJ (q_trans hf1 hf2) hii), τ, mc, T, hmc, hU, hut, ⟨hT.1, by omega⟩, hJ2, by omega, by omega⟩
    · cases e
set_option maxRecDepth 100000 in
theorem ll_k3 {u : Nat → Nat} {l : Nat} {kn : List (Nat × Int32)} {N : Nat} (hN : N < 512) {zi : Int32} {x : Nat → Int32} (ha : ll_a l kn zi x) {o5 o6 : Option Value} {h : am_H} {k q : Nat} (hI : ll_I u N h k q) {Q : am_R → Prop} (hn : ∀ o5 o6 h k q, ll_I u (N + 1) h k q → ll_R (ll_x l kn) (794, ll_lo u zi o5 o6, [], h, k, q) Q) : ll_R (ll_x l kn) (273, ll_lo u zi o5 o6, [], h, k, q) Q := by
  obtain ⟨hii, τ, mc, T, hmc, hU, hut, hT, hJ, hk, hq⟩ := hI
  refine ll_st ll_i273 (S' := (274, ll_lo u zi (o5) (o6), [.ref (u 1)], h, k, q)) rfl ?_
  refine ll_arg (c := 1) (zi := zi) (x := x 1) rfl rfl ll_i274 ll_i275 ll_i277 ll_i278 ll_i279 (ha 1 (by decide)).1 (ha 1 (by decide)).2 ?_
  refine ll_arg (c := 2) (zi := zi) (x := x 2) rfl rfl ll_i280 ll_i281 ll_i283 ll_i284 ll_i285 (ha 2 (by decide)).1 (ha 2 (by decide)).2 ?_
  refine ll_bool ll_i286 ll_i289 ll_i290 ll_i293 (fun b1 hb1 hx1 => ?_)
  refine ll_ca ll_i294 (j := 135) (as := [.ref (u 1), .int (x 1), .int b1]) (pc' := 294) (lo' := ll_lo u zi (o5) (o6)) (st' := []) (h' := h) (k1 := k) (q1 := q) rfl (mj := am_m135) rfl ⟨by decide, by decide, Nat.le_of_ble_eq_true rfl⟩ ?_
  refine Rn_mono (Rn_and (j_apic (xs := [.ref (u 1), .int (x 1), .int b1]) hmc hU hut (j_k135 mc hmc) rfl hJ ⟨Or.inr (ll_g1 hut), ⟨Or.inr (ll_gt), ⟨Or.inr (ll_gb hb1), trivial⟩⟩⟩) (q_apic (xs := [.ref (u 1), .int (x 1), .int b1]) hmc hU hut (j_q135 mc hmc) rfl hJ ⟨Or.inr (ll_g1 hut), ⟨Or.inr (ll_gt), ⟨Or.inr (ll_gb hb1), trivial⟩⟩⟩)) (fun r hr => ?_)
  obtain ⟨hr, hf1⟩ := hr
  obtain ⟨v1, h1, k1, q1, rfl, hv, hJ1, hk1, hq1, -⟩ := hr
  rcases hv with ⟨e, -⟩ | ⟨-, z1, rfl⟩
  · cases e
  · refine ⟨some (.int z1), h1, k1, q1, rfl, ?_⟩
    show ll_R (ll_x l kn) (297, ll_lo u zi (o5) (o6), [.int z1], h1, k + k1, q + q1) Q
    refine ll_st ll_i297 (S' := (299, ll_lo u zi (some (.int z1)) (o6), [], h1, k + k1, q + q1)) rfl ?_
    refine ll_st ll_i299 (S' := (300, ll_lo u zi (some (.int z1)) (o6), [.ref (u 40)], h1, k + k1, q + q1)) rfl ?_
    refine ll_arg (c := 1) (zi := zi) (x := x 1) rfl rfl ll_i300 ll_i301 ll_i303 ll_i304 ll_i305 (ha 1 (by decide)).1 (ha 1 (by decide)).2 ?_
    refine ll_arg (c := 2) (zi := zi) (x := x 2) rfl rfl ll_i306 ll_i307 ll_i309 ll_i310 ll_i311 (ha 2 (by decide)).1 (ha 2 (by decide)).2 ?_
    refine ll_bool ll_i312 ll_i315 ll_i316 ll_i319 (fun b2 hb2 hx2 => ?_)
    obtain ⟨vs2, hv2⟩ := ll_c40 hut hJ1
    refine ll_iv (as := [.int (x 1), .int b2]) (r := []) ll_i320 (j := 106) (b := 2) (d := 9) (by decide +kernel) hv2 rfl rfl rfl (Nat.le_of_ble_eq_true rfl) (mj := am_m106) rfl ⟨by decide, by decide, Nat.le_of_ble_eq_true rfl⟩ ?_
    refine Rn_mono (Rn_and (j_api (xs := [.ref (u 40), .int (x 1), .int b2]) hmc hU hut (j_k106 mc hmc) rfl hJ1 ⟨Or.inr (ll_g40 hut), ⟨Or.inr (ll_gt), ⟨Or.inr (ll_gb hb2), trivial⟩⟩⟩) (q_api (xs := [.ref (u 40), .int (x 1), .int b2]) hmc hU hut (j_q106 mc hmc) rfl hJ1 ⟨Or.inr (ll_g40 hut), ⟨Or.inr (ll_gt), ⟨Or.inr (ll_gb hb2), trivial⟩⟩⟩)) (fun r hr => ?_)
    obtain ⟨hr, hf2⟩ := hr
    obtain ⟨v2, h2, k2, q2, rfl, hv, hJ2, hk2, hq2, -⟩ := hr
    rcases hv with ⟨-, rfl⟩ | ⟨e, -⟩
    · refine ⟨none, h2, k2, q2, rfl, ?_⟩
      show ll_R (ll_x l kn) (323, ll_lo u zi (some (.int z1)) (o6), [], h2, k + k1 + k2, q + q1 + q2) Q
      refine ll_st ll_i323 (S' := (794, ll_lo u zi (some (.int z1)) (o6), [], h2, k + k1 + k2, q + q1 + q2)) rfl ?_
      exact hn _ _ _ _ _ ⟨(ii_k hut hJ (q_trans hf1 hf2) hii), τ, mc, T, hmc, hU, hut, ⟨hT.1, by omega⟩, hJ2, by omega, by omega⟩
    · cases e
set_option maxRecDepth 100000 in
theorem ll_k4 {u : Nat → Nat} {l : Nat} {kn : List (Nat × Int32)} {N : Nat} (hN : N < 512) {zi : Int32} {x : Nat → Int32} (ha : ll_a l kn zi x) {o5 o6 : Option Value} {h : am_H} {k q : Nat} (hI : ll_I u N h k q) {Q : am_R → Prop} (hn : ∀ o5 o6 h k q, ll_I u (N + 1) h k q → ll_R (ll_x l kn) (794, ll_lo u zi o5 o6, [], h, k, q) Q) : ll_R (ll_x l kn) (326, ll_lo u zi o5 o6, [], h, k, q) Q := by
  obtain ⟨hii, τ, mc, T, hmc, hU, hut, hT, hJ, hk, hq⟩ := hI
  refine ll_st ll_i326 (S' := (327, ll_lo u zi (o5) (o6), [.ref (u 1)], h, k, q)) rfl ?_
  refine ll_arg (c := 1) (zi := zi) (x := x 1) rfl rfl ll_i327 ll_i328 ll_i330 ll_i331 ll_i332 (ha 1 (by decide)).1 (ha 1 (by decide)).2 ?_
  refine ll_bool ll_i333 ll_i336 ll_i337 ll_i340 (fun b1 hb1 hx1 => ?_)
  obtain ⟨vs1, hv1⟩ := ll_c1 hut hJ
  refine ll_iv (as := [.int b1]) (r := []) ll_i341 (j := 2) (b := 1) (d := 0) (by decide +kernel) hv1 rfl rfl rfl (Nat.le_of_ble_eq_true rfl) (mj := am_m2) rfl ⟨by decide, by decide, Nat.le_of_ble_eq_true rfl⟩ ?_
  refine Rn_mono (Rn_and (j_apic (xs := [.ref (u 1), .int b1]) hmc hU hut (j_k2 mc hmc) rfl hJ ⟨Or.inr (ll_g1 hut), ⟨Or.inr (ll_gb hb1), trivial⟩⟩) (q_apic (xs := [.ref (u 1), .int b1]) hmc hU hut (j_q2 mc hmc) rfl hJ ⟨Or.inr (ll_g1 hut), ⟨Or.inr (ll_gb hb1), trivial⟩⟩)) (fun r hr => ?_)
  obtain ⟨hr, hf1⟩ := hr
  obtain ⟨v1, h1, k1, q1, rfl, hv, hJ1, hk1, hq1, -⟩ := hr
  rcases hv with ⟨e, -⟩ | ⟨-, z1, rfl⟩
  · cases e
  · refine ⟨some (.int z1), h1, k1, q1, rfl, ?_⟩
    show ll_R (ll_x l kn) (344, ll_lo u zi (o5) (o6), [.int z1], h1, k + k1, q + q1) Q
    refine ll_st ll_i344 (S' := (345, ll_lo u zi (o5) (o6), [], h1, k + k1, q + q1)) rfl ?_
    refine ll_st ll_i345 (S' := (346, ll_lo u zi (o5) (o6), [.ref (u 40)], h1, k + k1, q + q1)) rfl ?_
    refine ll_arg (c := 1) (zi := zi) (x := x 1) rfl rfl ll_i346 ll_i347 ll_i349 ll_i350 ll_i351 (ha 1 (by decide)).1 (ha 1 (by decide)).2 ?_
    refine ll_bool ll_i352 ll_i355 ll_i356 ll_i359 (fun b2 hb2 hx2 => ?_)
    obtain ⟨vs2, hv2⟩ := ll_c40 hut hJ1
    refine ll_iv (as := [.int b2]) (r := []) ll_i360 (j := 87) (b := 1) (d := 9) (by decide +kernel) hv2 rfl rfl rfl (Nat.le_of_ble_eq_true rfl) (mj := am_m87) rfl ⟨by decide, by decide, Nat.le_of_ble_eq_true rfl⟩ ?_
    refine Rn_mono (Rn_and (j_api (xs := [.ref (u 40), .int b2]) hmc hU hut (j_k87 mc hmc) rfl hJ1 ⟨Or.inr (ll_g40 hut), ⟨Or.inr (ll_gb hb2), trivial⟩⟩) (q_api (xs := [.ref (u 40), .int b2]) hmc hU hut (j_q87 mc hmc) rfl hJ1 ⟨Or.inr (ll_g40 hut), ⟨Or.inr (ll_gb hb2), trivial⟩⟩)) (fun r hr => ?_)
    obtain ⟨hr, hf2⟩ := hr
    obtain ⟨v2, h2, k2, q2, rfl, hv, hJ2, hk2, hq2, -⟩ := hr
    rcases hv with ⟨e, -⟩ | ⟨-, z2, rfl⟩
    · cases e
    · refine ⟨some (.int z2), h2, k2, q2, rfl, ?_⟩
      show ll_R (ll_x l kn) (363, ll_lo u zi (o5) (o6), [.int z2], h2, k + k1 + k2, q + q1 + q2) Q
      refine ll_st ll_i363 (S' := (364, ll_lo u zi (o5) (o6), [], h2, k + k1 + k2, q + q1 + q2)) rfl ?_
      refine ll_st ll_i364 (S' := (794, ll_lo u zi (o5) (o6), [], h2, k + k1 + k2, q + q1 + q2)) rfl ?_
      exact hn _ _ _ _ _ ⟨(ii_k hut hJ (q_trans hf1 hf2) hii), τ, mc, T, hmc, hU, hut, ⟨hT.1, by omega⟩, hJ2, by omega, by omega⟩
set_option maxRecDepth 100000 in
theorem ll_k5 {u : Nat → Nat} {l : Nat} {kn : List (Nat × Int32)} {N : Nat} (hN : N < 512) {zi : Int32} {x : Nat → Int32} (ha : ll_a l kn zi x) {o5 o6 : Option Value} {h : am_H} {k q : Nat} (hI : ll_I u N h k q) {Q : am_R → Prop} (hn : ∀ o5 o6 h k q, ll_I u (N + 1) h k q → ll_R (ll_x l kn) (794, ll_lo u zi o5 o6, [], h, k, q) Q) : ll_R (ll_x l kn) (367, ll_lo u zi o5 o6, [], h, k, q) Q := by
  obtain ⟨hii, τ, mc, T, hmc, hU, hut, hT, hJ, hk, hq⟩ := hI
  refine ll_st ll_i367 (S' := (368, ll_lo u zi (o5) (o6), [.ref (u 1)], h, k, q)) rfl ?_
  refine ll_arg (c := 1) (zi := zi) (x := x 1) rfl rfl ll_i368 ll_i369 ll_i371 ll_i372 ll_i373 (ha 1 (by decide)).1 (ha 1 (by decide)).2 ?_
  refine ll_st ll_i374 (S' := (375, ll_lo u zi (o5) (o6), [.ref (u 39), .int (x 1), .ref (u 1)], h, k, q)) rfl ?_
  refine ll_ca ll_i375 (j := 136) (as := [.ref (u 1), .int (x 1), .ref (u 39)]) (pc' := 375) (lo' := ll_lo u zi (o5) (o6)) (st' := []) (h' := h) (k1 := k) (q1 := q) rfl (mj := am_m136) rfl ⟨by decide, by decide, Nat.le_of_ble_eq_true rfl⟩ ?_
  refine Rn_mono (Rn_and (j_apic (xs := [.ref (u 1), .int (x 1), .ref (u 39)]) hmc hU hut (j_k136 mc hmc) rfl hJ ⟨Or.inr (ll_g1 hut), ⟨Or.inr (ll_gt), ⟨Or.inr (ll_g39 hut), trivial⟩⟩⟩) (q_apic (xs := [.ref (u 1), .int (x 1), .ref (u 39)]) hmc hU hut (j_q136 mc hmc) rfl hJ ⟨Or.inr (ll_g1 hut), ⟨Or.inr (ll_gt), ⟨Or.inr (ll_g39 hut), trivial⟩⟩⟩)) (fun r hr => ?_)
  obtain ⟨hr, hf1⟩ := hr
  obtain ⟨v1, h1, k1, q1, rfl, hv, hJ1, hk1, hq1, -⟩ := hr
  rcases hv with ⟨e, -⟩ | ⟨-, z1, rfl⟩
  · cases e
  · refine ⟨some (.int z1), h1, k1, q1, rfl, ?_⟩
    show ll_R (ll_x l kn) (378, ll_lo u zi (o5) (o6), [.int z1], h1, k + k1, q + q1) Q
    refine ll_st ll_i378 (S' := (380, ll_lo u zi (some (.int z1)) (o6), [], h1, k + k1, q + q1)) rfl ?_
    refine ll_st ll_i380 (S' := (381, ll_lo u zi (some (.int z1)) (o6), [.ref (u 40)], h1, k + k1, q + q1)) rfl ?_
    refine ll_arg (c := 1) (zi := zi) (x := x 1) rfl rfl ll_i381 ll_i382 ll_i384 ll_i385 ll_i386 (ha 1 (by decide)).1 (ha 1 (by decide)).2 ?_
    obtain ⟨vs2, hv2⟩ := ll_c40 hut hJ1
    refine ll_iv (as := [.int (x 1)]) (r := []) ll_i387 (j := 108) (b := 1) (d := 9) (by decide +kernel) hv2 rfl rfl rfl (Nat.le_of_ble_eq_true rfl) (mj := am_m108) rfl ⟨by decide, by decide, Nat.le_of_ble_eq_true rfl⟩ ?_
    refine Rn_mono (Rn_and (j_api (xs := [.ref (u 40), .int (x 1)]) hmc hU hut (j_k108 mc hmc) rfl hJ1 ⟨Or.inr (ll_g40 hut), ⟨Or.inr (ll_gt), trivial⟩⟩) (q_api (xs := [.ref (u 40), .int (x 1)]) hmc hU hut (j_q108 mc hmc) rfl hJ1 ⟨Or.inr (ll_g40 hut), ⟨Or.inr (ll_gt), trivial⟩⟩)) (fun r hr => ?_)
    obtain ⟨hr, hf2⟩ := hr
    obtain ⟨v2, h2, k2, q2, rfl, hv, hJ2, hk2, hq2, -⟩ := hr
    rcases hv with ⟨e, -⟩ | ⟨-, z2, rfl⟩
    · cases e
    · refine ⟨some (.int z2), h2, k2, q2, rfl, ?_⟩
      show ll_R (ll_x l kn) (390, ll_lo u zi (some (.int z1)) (o6), [.int z2], h2, k + k1 + k2, q + q1 + q2) Q
      refine ll_st ll_i390 (S' := (392, ll_lo u zi (some (.int z1)) (some (.int z2)), [], h2, k + k1 + k2, q + q1 + q2)) rfl ?_
      refine ll_st ll_i392 (S' := (794, ll_lo u zi (some (.int z1)) (some (.int z2)), [], h2, k + k1 + k2, q + q1 + q2)) rfl ?_
      exact hn _ _ _ _ _ ⟨(ii_k hut hJ (q_trans hf1 hf2) hii), τ, mc, T, hmc, hU, hut, ⟨hT.1, by omega⟩, hJ2, by omega, by omega⟩
set_option maxRecDepth 100000 in
theorem ll_k6 {u : Nat → Nat} {l : Nat} {kn : List (Nat × Int32)} {N : Nat} (hN : N < 512) {zi : Int32} {x : Nat → Int32} (ha : ll_a l kn zi x) {o5 o6 : Option Value} {h : am_H} {k q : Nat} (hI : ll_I u N h k q) {Q : am_R → Prop} (hn : ∀ o5 o6 h k q, ll_I u (N + 1) h k q → ll_R (ll_x l kn) (794, ll_lo u zi o5 o6, [], h, k, q) Q) : ll_R (ll_x l kn) (395, ll_lo u zi o5 o6, [], h, k, q) Q := by
  obtain ⟨hii, τ, mc, T, hmc, hU, hut, hT, hJ, hk, hq⟩ := hI
  refine ll_st ll_i395 (S' := (396, ll_lo u zi (o5) (o6), [.ref (u 1)], h, k, q)) rfl ?_
  refine ll_arg (c := 1) (zi := zi) (x := x 1) rfl rfl ll_i396 ll_i397 ll_i399 ll_i400 ll_i401 (ha 1 (by decide)).1 (ha 1 (by decide)).2 ?_
  refine ll_st ll_i402 (S' := (403, ll_lo u zi (o5) (o6), [.ref (u 39), .int (x 1), .ref (u 1)], h, k, q)) rfl ?_
  refine ll_ca ll_i403 (j := 141) (as := [.ref (u 1), .int (x 1), .ref (u 39)]) (pc' := 403) (lo' := ll_lo u zi (o5) (o6)) (st' := []) (h' := h) (k1 := k) (q1 := q) rfl (mj := am_m141) rfl ⟨by decide, by decide, Nat.le_of_ble_eq_true rfl⟩ ?_
  have hjn := ll_jn (x 1)
  refine Rn_mono (jl_runQ hmc hU hut ⟨hT.1, by omega⟩ hJ (x 1)) (fun r hr => ?_)
  obtain ⟨z1, h1, k1, q1, rfl, hJ1, hk1, hq1, -, hf1⟩ := hr
  refine ⟨some (.int z1), h1, k1, q1, rfl, ?_⟩
  show ll_R (ll_x l kn) (406, ll_lo u zi (o5) (o6), [.int z1], h1, k + k1, q + q1) Q
  refine ll_st ll_i406 (S' := (408, ll_lo u zi (some (.int z1)) (o6), [], h1, k + k1, q + q1)) rfl ?_
  refine ll_st ll_i408 (S' := (409, ll_lo u zi (some (.int z1)) (o6), [.ref (u 40)], h1, k + k1, q + q1)) rfl ?_
  refine ll_arg (c := 1) (zi := zi) (x := x 1) rfl rfl ll_i409 ll_i410 ll_i412 ll_i413 ll_i414 (ha 1 (by decide)).1 (ha 1 (by decide)).2 ?_
  obtain ⟨vs2, hv2⟩ := ll_c40 hut hJ1
  refine ll_iv (as := [.int (x 1)]) (r := []) ll_i415 (j := 119) (b := 1) (d := 9) (by decide +kernel) hv2 rfl rfl rfl (Nat.le_of_ble_eq_true rfl) (mj := am_m119) rfl ⟨by decide, by decide, Nat.le_of_ble_eq_true rfl⟩ ?_
  refine Rn_mono (jm_runQ hmc hU hut ⟨hT.1, by omega⟩ hJ1 (x 1)) (fun r hr => ?_)
  obtain ⟨z2, h2, rfl, hJ2, -, hf2⟩ := hr
  refine ⟨some (.int z2), h2, 0, 0, rfl, ?_⟩
  show ll_R (ll_x l kn) (418, ll_lo u zi (some (.int z1)) (o6), [.int z2], h2, k + k1 + 0, q + q1 + 0) Q
  refine ll_st ll_i418 (S' := (420, ll_lo u zi (some (.int z1)) (some (.int z2)), [], h2, k + k1 + 0, q + q1 + 0)) rfl ?_
  refine ll_st ll_i420 (S' := (794, ll_lo u zi (some (.int z1)) (some (.int z2)), [], h2, k + k1 + 0, q + q1 + 0)) rfl ?_
  exact hn _ _ _ _ _ ⟨(ii_k hut hJ (q_trans hf1 hf2) hii), τ, mc, T + j_n (x 1), hmc, hU, hut, ⟨by omega, by omega⟩, hJ2, by omega, by omega⟩
set_option maxRecDepth 100000 in
theorem ll_k7 {u : Nat → Nat} {l : Nat} {kn : List (Nat × Int32)} {N : Nat} (hN : N < 512) {zi : Int32} {x : Nat → Int32} (ha : ll_a l kn zi x) {o5 o6 : Option Value} {h : am_H} {k q : Nat} (hI : ll_I u N h k q) {Q : am_R → Prop} (hn : ∀ o5 o6 h k q, ll_I u (N + 1) h k q → ll_R (ll_x l kn) (794, ll_lo u zi o5 o6, [], h, k, q) Q) : ll_R (ll_x l kn) (423, ll_lo u zi o5 o6, [], h, k, q) Q := by
  obtain ⟨hii, τ, mc, T, hmc, hU, hut, hT, hJ, hk, hq⟩ := hI
  refine ll_st ll_i423 (S' := (424, ll_lo u zi (o5) (o6), [.ref (u 1)], h, k, q)) rfl ?_
  obtain ⟨vs1, hv1⟩ := ll_c1 hut hJ
  refine ll_iv (as := []) (r := []) ll_i424 (j := 23) (b := 0) (d := 0) (by decide +kernel) hv1 rfl rfl rfl (Nat.le_of_ble_eq_true rfl) (mj := am_m23) rfl ⟨by decide, by decide, Nat.le_of_ble_eq_true rfl⟩ ?_
  refine Rn_mono (jc_now (Q := fun r => ∃ z : Int32, ab_b z = T ∧ r = (.inl (some (.int z)), h, 0, 0)) hmc hU hut hJ (fun z hz => ⟨z, hz, rfl⟩)) (fun r hr => ?_)
  obtain ⟨z1, hz1, rfl⟩ := hr
  have hf1 : q_P τ u h h := q_refl
  refine ⟨some (.int z1), h, 0, 0, rfl, ?_⟩
  show ll_R (ll_x l kn) (427, ll_lo u zi (o5) (o6), [.int z1], h, k + 0, q + 0) Q
  refine ll_st ll_i427 (S' := (428, ll_lo u zi (o5) (o6), [], h, k + 0, q + 0)) rfl ?_
  refine ll_st ll_i428 (S' := (429, ll_lo u zi (o5) (o6), [.ref (u 40)], h, k + 0, q + 0)) rfl ?_
  obtain ⟨vs2, hv2⟩ := ll_c40 hut hJ
  refine ll_iv (as := []) (r := []) ll_i429 (j := 112) (b := 0) (d := 9) (by decide +kernel) hv2 rfl rfl rfl (Nat.le_of_ble_eq_true rfl) (mj := am_m112) rfl ⟨by decide, by decide, Nat.le_of_ble_eq_true rfl⟩ ?_
  refine Rn_mono (jm_nowQ (Q := fun r => ∃ (z : Int32) (h2 : am_H), ab_b z = T ∧ j_J τ u mc T T h2 ∧ q_P τ u h h2 ∧ r = (.inl (some (.int z)), h2, 0, 0)) hmc hU hut hJ (fun z h2 hz hJ2 _ hq => ⟨z, h2, hz, hJ2, hq, rfl⟩)) (fun r hr => ?_)
  obtain ⟨z2, h2, hz2, hJ2, hf2, rfl⟩ := hr
  refine ⟨some (.int z2), h2, 0, 0, rfl, ?_⟩
  show ll_R (ll_x l kn) (432, ll_lo u zi (o5) (o6), [.int z2], h2, k + 0 + 0, q + 0 + 0) Q
  refine ll_st ll_i432 (S' := (433, ll_lo u zi (o5) (o6), [], h2, k + 0 + 0, q + 0 + 0)) rfl ?_
  refine ll_st ll_i433 (S' := (794, ll_lo u zi (o5) (o6), [], h2, k + 0 + 0, q + 0 + 0)) rfl ?_
  exact hn _ _ _ _ _ ⟨(ii_k hut hJ (q_trans hf1 hf2) hii), τ, mc, T, hmc, hU, hut, ⟨hT.1, by omega⟩, hJ2, by omega, by omega⟩
set_option maxRecDepth 100000 in
theorem ll_k8 {u : Nat → Nat} {l : Nat} {kn : List (Nat × Int32)} {N : Nat} (hN : N < 512) {zi : Int32} {x : Nat → Int32} (ha : ll_a l kn zi x) {o5 o6 : Option Value} {h : am_H} {k q : Nat} (hI : ll_I u N h k q) {Q : am_R → Prop} (hn : ∀ o5 o6 h k q, ll_I u (N + 1) h k q → ll_R (ll_x l kn) (794, ll_lo u zi o5 o6, [], h, k, q) Q) : ll_R (ll_x l kn) (436, ll_lo u zi o5 o6, [], h, k, q) Q := by
  obtain ⟨hii, τ, mc, T, hmc, hU, hut, hT, hJ, hk, hq⟩ := hI
  refine ll_st ll_i436 (S' := (437, ll_lo u zi (o5) (o6), [.ref (u 1)], h, k, q)) rfl ?_
  refine ll_arg (c := 1) (zi := zi) (x := x 1) rfl rfl ll_i437 ll_i438 ll_i440 ll_i441 ll_i442 (ha 1 (by decide)).1 (ha 1 (by decide)).2 ?_
  refine ll_arg (c := 2) (zi := zi) (x := x 2) rfl rfl ll_i443 ll_i444 ll_i446 ll_i447 ll_i448 (ha 2 (by decide)).1 (ha 2 (by decide)).2 ?_
  refine ll_st ll_i449 (S' := (450, ll_lo u zi (o5) (o6), [.ref (u 39), .int (x 2), .int (x 1), .ref (u 1)], h, k, q)) rfl ?_
  refine ll_ca ll_i450 (j := 130) (as := [.ref (u 1), .int (x 1), .int (x 2), .ref (u 39)]) (pc' := 450) (lo' := ll_lo u zi (o5) (o6)) (st' := []) (h' := h) (k1 := k) (q1 := q) rfl (mj := am_m130) rfl ⟨by decide, by decide, Nat.le_of_ble_eq_true rfl⟩ ?_
  refine Rn_mono (Rn_and (j_apic (xs := [.ref (u 1), .int (x 1), .int (x 2), .ref (u 39)]) hmc hU hut (j_k130 mc hmc) rfl hJ ⟨Or.inr (ll_g1 hut), ⟨Or.inr (ll_gt), ⟨Or.inr (ll_gt), ⟨Or.inr (ll_g39 hut), trivial⟩⟩⟩⟩) (q_apic (xs := [.ref (u 1), .int (x 1), .int (x 2), .ref (u 39)]) hmc hU hut (j_q130 mc hmc) rfl hJ ⟨Or.inr (ll_g1 hut), ⟨Or.inr (ll_gt), ⟨Or.inr (ll_gt), ⟨Or.inr (ll_g39 hut), trivial⟩⟩⟩⟩)) (fun r hr => ?_)
  obtain ⟨hr, hf1⟩ := hr
  obtain ⟨v1, h1, k1, q1, rfl, hv, hJ1, hk1, hq1, -⟩ := hr
  rcases hv with ⟨e, -⟩ | ⟨-, z1, rfl⟩
  · cases e
  · refine ⟨some (.int z1), h1, k1, q1, rfl, ?_⟩
    show ll_R (ll_x l kn) (453, ll_lo u zi (o5) (o6), [.int z1], h1, k + k1, q + q1) Q
    refine ll_st ll_i453 (S' := (455, ll_lo u zi (some (.int z1)) (o6), [], h1, k + k1, q + q1)) rfl ?_
    refine ll_st ll_i455 (S' := (456, ll_lo u zi (some (.int z1)) (o6), [.ref (u 40)], h1, k + k1, q + q1)) rfl ?_
    refine ll_arg (c := 1) (zi := zi) (x := x 1) rfl rfl ll_i456 ll_i457 ll_i459 ll_i460 ll_i461 (ha 1 (by decide)).1 (ha 1 (by decide)).2 ?_
    refine ll_arg (c := 2) (zi := zi) (x := x 2) rfl rfl ll_i462 ll_i463 ll_i465 ll_i466 ll_i467 (ha 2 (by decide)).1 (ha 2 (by decide)).2 ?_
    obtain ⟨vs2, hv2⟩ := ll_c40 hut hJ1
    refine ll_iv (as := [.int (x 1), .int (x 2)]) (r := []) ll_i468 (j := 88) (b := 2) (d := 9) (by decide +kernel) hv2 rfl rfl rfl (Nat.le_of_ble_eq_true rfl) (mj := am_m88) rfl ⟨by decide, by decide, Nat.le_of_ble_eq_true rfl⟩ ?_
    refine Rn_mono (Rn_and (j_api (xs := [.ref (u 40), .int (x 1), .int (x 2)]) hmc hU hut (j_k88 mc hmc) rfl hJ1 ⟨Or.inr (ll_g40 hut), ⟨Or.inr (ll_gt), ⟨Or.inr (ll_gt), trivial⟩⟩⟩) (q_api (xs := [.ref (u 40), .int (x 1), .int (x 2)]) hmc hU hut (j_q88 mc hmc) rfl hJ1 ⟨Or.inr (ll_g40 hut), ⟨Or.inr (ll_gt), ⟨Or.inr (ll_gt), trivial⟩⟩⟩)) (fun r hr => ?_)
    obtain ⟨hr, hf2⟩ := hr
    obtain ⟨v2, h2, k2, q2, rfl, hv, hJ2, hk2, hq2, -⟩ := hr
    rcases hv with ⟨e, -⟩ | ⟨-, z2, rfl⟩
    · cases e
    · refine ⟨some (.int z2), h2, k2, q2, rfl, ?_⟩
      show ll_R (ll_x l kn) (471, ll_lo u zi (some (.int z1)) (o6), [.int z2], h2, k + k1 + k2, q + q1 + q2) Q
      refine ll_st ll_i471 (S' := (473, ll_lo u zi (some (.int z1)) (some (.int z2)), [], h2, k + k1 + k2, q + q1 + q2)) rfl ?_
      refine ll_st ll_i473 (S' := (794, ll_lo u zi (some (.int z1)) (some (.int z2)), [], h2, k + k1 + k2, q + q1 + q2)) rfl ?_
      exact hn _ _ _ _ _ ⟨(ii_k hut hJ (q_trans hf1 hf2) hii), τ, mc, T, hmc, hU, hut, ⟨hT.1, by omega⟩, hJ2, by omega, by omega⟩
set_option maxRecDepth 100000 in
theorem ll_k9 {u : Nat → Nat} {l : Nat} {kn : List (Nat × Int32)} {N : Nat} (hN : N < 512) {zi : Int32} {x : Nat → Int32} (ha : ll_a l kn zi x) {o5 o6 : Option Value} {h : am_H} {k q : Nat} (hI : ll_I u N h k q) {Q : am_R → Prop} (hn : ∀ o5 o6 h k q, ll_I u (N + 1) h k q → ll_R (ll_x l kn) (794, ll_lo u zi o5 o6, [], h, k, q) Q) : ll_R (ll_x l kn) (476, ll_lo u zi o5 o6, [], h, k, q) Q := by
  obtain ⟨hii, τ, mc, T, hmc, hU, hut, hT, hJ, hk, hq⟩ := hI
  refine ll_st ll_i476 (S' := (477, ll_lo u zi (o5) (o6), [.ref (u 1)], h, k, q)) rfl ?_
  refine ll_arg (c := 1) (zi := zi) (x := x 1) rfl rfl ll_i477 ll_i478 ll_i480 ll_i481 ll_i482 (ha 1 (by decide)).1 (ha 1 (by decide)).2 ?_
  refine ll_arg (c := 2) (zi := zi) (x := x 2) rfl rfl ll_i483 ll_i484 ll_i486 ll_i487 ll_i488 (ha 2 (by decide)).1 (ha 2 (by decide)).2 ?_
  refine ll_arg (c := 3) (zi := zi) (x := x 3) rfl rfl ll_i489 ll_i490 ll_i492 ll_i493 ll_i494 (ha 3 (by decide)).1 (ha 3 (by decide)).2 ?_
  refine ll_st ll_i495 (S' := (496, ll_lo u zi (o5) (o6), [.ref (u 39), .int (x 3), .int (x 2), .int (x 1), .ref (u 1)], h, k, q)) rfl ?_
  refine ll_ca ll_i496 (j := 133) (as := [.ref (u 1), .int (x 1), .int (x 2), .int (x 3), .ref (u 39)]) (pc' := 496) (lo' := ll_lo u zi (o5) (o6)) (st' := []) (h' := h) (k1 := k) (q1 := q) rfl (mj := am_m133) rfl ⟨by decide, by decide, Nat.le_of_ble_eq_true rfl⟩ ?_
  refine Rn_mono (Rn_and (j_apic (xs := [.ref (u 1), .int (x 1), .int (x 2), .int (x 3), .ref (u 39)]) hmc hU hut (j_k133 mc hmc) rfl hJ ⟨Or.inr (ll_g1 hut), ⟨Or.inr (ll_gt), ⟨Or.inr (ll_gt), ⟨Or.inr (ll_gt), ⟨Or.inr (ll_g39 hut), trivial⟩⟩⟩⟩⟩) (q_apic (xs := [.ref (u 1), .int (x 1), .int (x 2), .int (x 3), .ref (u 39)]) hmc hU hut (j_q133 mc hmc) rfl hJ ⟨Or.inr (ll_g1 hut), ⟨Or.inr (ll_gt), ⟨Or.inr (ll_gt), ⟨Or.inr (ll_gt), ⟨Or.inr (ll_g39 hut), trivial⟩⟩⟩⟩⟩)) (fun r hr => ?_)
  obtain ⟨hr, hf1⟩ := hr
  obtain ⟨v1, h1, k1, q1, rfl, hv, hJ1, hk1, hq1, -⟩ := hr
  rcases hv with ⟨e, -⟩ | ⟨-, z1, rfl⟩
  · cases e
  · refine ⟨some (.int z1), h1, k1, q1, rfl, ?_⟩
    show ll_R (ll_x l kn) (499, ll_lo u zi (o5) (o6), [.int z1], h1, k + k1, q + q1) Q
    refine ll_st ll_i499 (S' := (501, ll_lo u zi (some (.int z1)) (o6), [], h1, k + k1, q + q1)) rfl ?_
    refine ll_st ll_i501 (S' := (502, ll_lo u zi (some (.int z1)) (o6), [.ref (u 40)], h1, k + k1, q + q1)) rfl ?_
    refine ll_arg (c := 1) (zi := zi) (x := x 1) rfl rfl ll_i502 ll_i503 ll_i505 ll_i506 ll_i507 (ha 1 (by decide)).1 (ha 1 (by decide)).2 ?_
    refine ll_arg (c := 2) (zi := zi) (x := x 2) rfl rfl ll_i508 ll_i509 ll_i511 ll_i512 ll_i513 (ha 2 (by decide)).1 (ha 2 (by decide)).2 ?_
    refine ll_arg (c := 3) (zi := zi) (x := x 3) rfl rfl ll_i514 ll_i515 ll_i517 ll_i518 ll_i519 (ha 3 (by decide)).1 (ha 3 (by decide)).2 ?_
    obtain ⟨vs2, hv2⟩ := ll_c40 hut hJ1
    refine ll_iv (as := [.int (x 1), .int (x 2), .int (x 3)]) (r := []) ll_i520 (j := 99) (b := 3) (d := 9) (by decide +kernel) hv2 rfl rfl rfl (Nat.le_of_ble_eq_true rfl) (mj := am_m99) rfl ⟨by decide, by decide, Nat.le_of_ble_eq_true rfl⟩ ?_
    refine Rn_mono (Rn_and (j_api (xs := [.ref (u 40), .int (x 1), .int (x 2), .int (x 3)]) hmc hU hut (j_k99 mc hmc) rfl hJ1 ⟨Or.inr (ll_g40 hut), ⟨Or.inr (ll_gt), ⟨Or.inr (ll_gt), ⟨Or.inr (ll_gt), trivial⟩⟩⟩⟩) (q_api (xs := [.ref (u 40), .int (x 1), .int (x 2), .int (x 3)]) hmc hU hut (j_q99 mc hmc) rfl hJ1 ⟨Or.inr (ll_g40 hut), ⟨Or.inr (ll_gt), ⟨Or.inr (ll_gt), ⟨Or.inr (ll_gt), trivial⟩⟩⟩⟩)) (fun r hr => ?_)
    obtain ⟨hr, hf2⟩ := hr
    obtain ⟨v2, h2, k2, q2, rfl, hv, hJ2, hk2, hq2, -⟩ := hr
    rcases hv with ⟨e, -⟩ | ⟨-, z2, rfl⟩
    · cases e
    · refine ⟨some (.int z2), h2, k2, q2, rfl, ?_⟩
      show ll_R (ll_x l kn) (523, ll_lo u zi (some (.int z1)) (o6), [.int z2], h2, k + k1 + k2, q + q1 + q2) Q
      refine ll_st ll_i523 (S' := (525, ll_lo u zi (some (.int z1)) (some (.int z2)), [], h2, k + k1 + k2, q + q1 + q2)) rfl ?_
      refine ll_st ll_i525 (S' := (794, ll_lo u zi (some (.int z1)) (some (.int z2)), [], h2, k + k1 + k2, q + q1 + q2)) rfl ?_
      exact hn _ _ _ _ _ ⟨(ii_k hut hJ (q_trans hf1 hf2) hii), τ, mc, T, hmc, hU, hut, ⟨hT.1, by omega⟩, hJ2, by omega, by omega⟩
set_option maxRecDepth 100000 in
theorem ll_k10 {u : Nat → Nat} {l : Nat} {kn : List (Nat × Int32)} {N : Nat} (hN : N < 512) {zi : Int32} {x : Nat → Int32} (ha : ll_a l kn zi x) {o5 o6 : Option Value} {h : am_H} {k q : Nat} (hI : ll_I u N h k q) {Q : am_R → Prop} (hn : ∀ o5 o6 h k q, ll_I u (N + 1) h k q → ll_R (ll_x l kn) (794, ll_lo u zi o5 o6, [], h, k, q) Q) : ll_R (ll_x l kn) (528, ll_lo u zi o5 o6, [], h, k, q) Q := by
  obtain ⟨hii, τ, mc, T, hmc, hU, hut, hT, hJ, hk, hq⟩ := hI
  refine ll_st ll_i528 (S' := (529, ll_lo u zi (o5) (o6), [.ref (u 1)], h, k, q)) rfl ?_
  obtain ⟨vs1, hv1⟩ := ll_c1 hut hJ
  refine ll_iv (as := []) (r := []) ll_i529 (j := 25) (b := 0) (d := 0) (by decide +kernel) hv1 rfl rfl rfl (Nat.le_of_ble_eq_true rfl) (mj := am_m25) rfl ⟨by decide, by decide, Nat.le_of_ble_eq_true rfl⟩ ?_
  refine Rn_mono (Rn_and (j_apic (xs := [.ref (u 1)]) hmc hU hut (j_k25 mc hmc) rfl hJ ⟨Or.inr (ll_g1 hut), trivial⟩) (q_apic (xs := [.ref (u 1)]) hmc hU hut (j_q25 mc hmc) rfl hJ ⟨Or.inr (ll_g1 hut), trivial⟩)) (fun r hr => ?_)
  obtain ⟨hr, hf1⟩ := hr
  obtain ⟨v1, h1, k1, q1, rfl, hv, hJ1, hk1, hq1, -⟩ := hr
  rcases hv with ⟨e, -⟩ | ⟨-, z1, rfl⟩
  · cases e
  · refine ⟨some (.int z1), h1, k1, q1, rfl, ?_⟩
    show ll_R (ll_x l kn) (532, ll_lo u zi (o5) (o6), [.int z1], h1, k + k1, q + q1) Q
    refine ll_st ll_i532 (S' := (533, ll_lo u zi (o5) (o6), [], h1, k + k1, q + q1)) rfl ?_
    refine ll_st ll_i533 (S' := (534, ll_lo u zi (o5) (o6), [.ref (u 40)], h1, k + k1, q + q1)) rfl ?_
    obtain ⟨vs2, hv2⟩ := ll_c40 hut hJ1
    refine ll_iv (as := []) (r := []) ll_i534 (j := 115) (b := 0) (d := 9) (by decide +kernel) hv2 rfl rfl rfl (Nat.le_of_ble_eq_true rfl) (mj := am_m115) rfl ⟨by decide, by decide, Nat.le_of_ble_eq_true rfl⟩ ?_
    refine Rn_mono (Rn_and (j_api (xs := [.ref (u 40)]) hmc hU hut (j_k115 mc hmc) rfl hJ1 ⟨Or.inr (ll_g40 hut), trivial⟩) (q_api (xs := [.ref (u 40)]) hmc hU hut (j_q115 mc hmc) rfl hJ1 ⟨Or.inr (ll_g40 hut), trivial⟩)) (fun r hr => ?_)
    obtain ⟨hr, hf2⟩ := hr
    obtain ⟨v2, h2, k2, q2, rfl, hv, hJ2, hk2, hq2, -⟩ := hr
    rcases hv with ⟨e, -⟩ | ⟨-, z2, rfl⟩
    · cases e
    · refine ⟨some (.int z2), h2, k2, q2, rfl, ?_⟩
      show ll_R (ll_x l kn) (537, ll_lo u zi (o5) (o6), [.int z2], h2, k + k1 + k2, q + q1 + q2) Q
      refine ll_st ll_i537 (S' := (538, ll_lo u zi (o5) (o6), [], h2, k + k1 + k2, q + q1 + q2)) rfl ?_
      refine ll_st ll_i538 (S' := (794, ll_lo u zi (o5) (o6), [], h2, k + k1 + k2, q + q1 + q2)) rfl ?_
      exact hn _ _ _ _ _ ⟨(ii_k hut hJ (q_trans hf1 hf2) hii), τ, mc, T, hmc, hU, hut, ⟨hT.1, by omega⟩, hJ2, by omega, by omega⟩
set_option maxRecDepth 100000 in
theorem ll_k11 {u : Nat → Nat} {l : Nat} {kn : List (Nat × Int32)} {N : Nat} (hN : N < 512) {zi : Int32} {x : Nat → Int32} (ha : ll_a l kn zi x) {o5 o6 : Option Value} {h : am_H} {k q : Nat} (hI : ll_I u N h k q) {Q : am_R → Prop} (hn : ∀ o5 o6 h k q, ll_I u (N + 1) h k q → ll_R (ll_x l kn) (794, ll_lo u zi o5 o6, [], h, k, q) Q) : ll_R (ll_x l kn) (541, ll_lo u zi o5 o6, [], h, k, q) Q := by
  obtain ⟨hii, τ, mc, T, hmc, hU, hut, hT, hJ, hk, hq⟩ := hI
  refine ll_st ll_i541 (S' := (542, ll_lo u zi (o5) (o6), [.ref (u 1)], h, k, q)) rfl ?_
  obtain ⟨vs1, hv1⟩ := ll_c1 hut hJ
  refine ll_iv (as := []) (r := []) ll_i542 (j := 4) (b := 0) (d := 0) (by decide +kernel) hv1 rfl rfl rfl (Nat.le_of_ble_eq_true rfl) (mj := am_m4) rfl ⟨by decide, by decide, Nat.le_of_ble_eq_true rfl⟩ ?_
  refine Rn_mono (Rn_and (j_apic (xs := [.ref (u 1)]) hmc hU hut (j_k4 mc hmc) rfl hJ ⟨Or.inr (ll_g1 hut), trivial⟩) (q_apic (xs := [.ref (u 1)]) hmc hU hut (j_q4 mc hmc) rfl hJ ⟨Or.inr (ll_g1 hut), trivial⟩)) (fun r hr => ?_)
  obtain ⟨hr, hf1⟩ := hr
  obtain ⟨v1, h1, k1, q1, rfl, hv, hJ1, hk1, hq1, -⟩ := hr
  rcases hv with ⟨e, -⟩ | ⟨-, z1, rfl⟩
  · cases e
  · refine ⟨some (.int z1), h1, k1, q1, rfl, ?_⟩
    show ll_R (ll_x l kn) (545, ll_lo u zi (o5) (o6), [.int z1], h1, k + k1, q + q1) Q
    refine ll_st ll_i545 (S' := (546, ll_lo u zi (o5) (o6), [], h1, k + k1, q + q1)) rfl ?_
    refine ll_st ll_i546 (S' := (547, ll_lo u zi (o5) (o6), [.ref (u 40)], h1, k + k1, q + q1)) rfl ?_
    obtain ⟨vs2, hv2⟩ := ll_c40 hut hJ1
    refine ll_iv (as := []) (r := []) ll_i547 (j := 90) (b := 0) (d := 9) (by decide +kernel) hv2 rfl rfl rfl (Nat.le_of_ble_eq_true rfl) (mj := am_m90) rfl ⟨by decide, by decide, Nat.le_of_ble_eq_true rfl⟩ ?_
    refine Rn_mono (Rn_and (j_api (xs := [.ref (u 40)]) hmc hU hut (j_k90 mc hmc) rfl hJ1 ⟨Or.inr (ll_g40 hut), trivial⟩) (q_api (xs := [.ref (u 40)]) hmc hU hut (j_q90 mc hmc) rfl hJ1 ⟨Or.inr (ll_g40 hut), trivial⟩)) (fun r hr => ?_)
    obtain ⟨hr, hf2⟩ := hr
    obtain ⟨v2, h2, k2, q2, rfl, hv, hJ2, hk2, hq2, -⟩ := hr
    rcases hv with ⟨e, -⟩ | ⟨-, z2, rfl⟩
    · cases e
    · refine ⟨some (.int z2), h2, k2, q2, rfl, ?_⟩
      show ll_R (ll_x l kn) (550, ll_lo u zi (o5) (o6), [.int z2], h2, k + k1 + k2, q + q1 + q2) Q
      refine ll_st ll_i550 (S' := (551, ll_lo u zi (o5) (o6), [], h2, k + k1 + k2, q + q1 + q2)) rfl ?_
      refine ll_st ll_i551 (S' := (794, ll_lo u zi (o5) (o6), [], h2, k + k1 + k2, q + q1 + q2)) rfl ?_
      exact hn _ _ _ _ _ ⟨(ii_k hut hJ (q_trans hf1 hf2) hii), τ, mc, T, hmc, hU, hut, ⟨hT.1, by omega⟩, hJ2, by omega, by omega⟩
set_option maxRecDepth 100000 in
theorem ll_k12 {u : Nat → Nat} {l : Nat} {kn : List (Nat × Int32)} {N : Nat} (hN : N < 512) {zi : Int32} {x : Nat → Int32} (ha : ll_a l kn zi x) {o5 o6 : Option Value} {h : am_H} {k q : Nat} (hI : ll_I u N h k q) {Q : am_R → Prop} (hn : ∀ o5 o6 h k q, ll_I u (N + 1) h k q → ll_R (ll_x l kn) (794, ll_lo u zi o5 o6, [], h, k, q) Q) : ll_R (ll_x l kn) (554, ll_lo u zi o5 o6, [], h, k, q) Q := by
  obtain ⟨hii, τ, mc, T, hmc, hU, hut, hT, hJ, hk, hq⟩ := hI
  refine ll_st ll_i554 (S' := (555, ll_lo u zi (o5) (o6), [.ref (u 1)], h, k, q)) rfl ?_
  refine ll_arg (c := 1) (zi := zi) (x := x 1) rfl rfl ll_i555 ll_i556 ll_i558 ll_i559 ll_i560 (ha 1 (by decide)).1 (ha 1 (by decide)).2 ?_
  refine ll_arg (c := 2) (zi := zi) (x := x 2) rfl rfl ll_i561 ll_i562 ll_i564 ll_i565 ll_i566 (ha 2 (by decide)).1 (ha 2 (by decide)).2 ?_
  refine ll_st ll_i567 (S' := (568, ll_lo u zi (o5) (o6), [.ref (u 39), .int (x 2), .int (x 1), .ref (u 1)], h, k, q)) rfl ?_
  refine ll_ca ll_i568 (j := 132) (as := [.ref (u 1), .int (x 1), .int (x 2), .ref (u 39)]) (pc' := 568) (lo' := ll_lo u zi (o5) (o6)) (st' := []) (h' := h) (k1 := k) (q1 := q) rfl (mj := am_m132) rfl ⟨by decide, by decide, Nat.le_of_ble_eq_true rfl⟩ ?_
  refine Rn_mono (Rn_and (j_apic (xs := [.ref (u 1), .int (x 1), .int (x 2), .ref (u 39)]) hmc hU hut (j_k132 mc hmc) rfl hJ ⟨Or.inr (ll_g1 hut), ⟨Or.inr (ll_gt), ⟨Or.inr (ll_gt), ⟨Or.inr (ll_g39 hut), trivial⟩⟩⟩⟩) (q_apic (xs := [.ref (u 1), .int (x 1), .int (x 2), .ref (u 39)]) hmc hU hut (j_q132 mc hmc) rfl hJ ⟨Or.inr (ll_g1 hut), ⟨Or.inr (ll_gt), ⟨Or.inr (ll_gt), ⟨Or.inr (ll_g39 hut), trivial⟩⟩⟩⟩)) (fun r hr => ?_)
  obtain ⟨hr, hf1⟩ := hr
  obtain ⟨v1, h1, k1, q1, rfl, hv, hJ1, hk1, hq1, -⟩ := hr
  rcases hv with ⟨e, -⟩ | ⟨-, z1, rfl⟩
  · cases e
  · refine ⟨some (.int z1), h1, k1, q1, rfl, ?_⟩
    show ll_R (ll_x l kn) (571, ll_lo u zi (o5) (o6), [.int z1], h1, k + k1, q + q1) Q
    refine ll_st ll_i571 (S' := (573, ll_lo u zi (some (.int z1)) (o6), [], h1, k + k1, q + q1)) rfl ?_
    refine ll_st ll_i573 (S' := (574, ll_lo u zi (some (.int z1)) (o6), [.ref (u 40)], h1, k + k1, q + q1)) rfl ?_
    refine ll_arg (c := 1) (zi := zi) (x := x 1) rfl rfl ll_i574 ll_i575 ll_i577 ll_i578 ll_i579 (ha 1 (by decide)).1 (ha 1 (by decide)).2 ?_
    refine ll_arg (c := 2) (zi := zi) (x := x 2) rfl rfl ll_i580 ll_i581 ll_i583 ll_i584 ll_i585 (ha 2 (by decide)).1 (ha 2 (by decide)).2 ?_
    obtain ⟨vs2, hv2⟩ := ll_c40 hut hJ1
    refine ll_iv (as := [.int (x 1), .int (x 2)]) (r := []) ll_i586 (j := 97) (b := 2) (d := 9) (by decide +kernel) hv2 rfl rfl rfl (Nat.le_of_ble_eq_true rfl) (mj := am_m97) rfl ⟨by decide, by decide, Nat.le_of_ble_eq_true rfl⟩ ?_
    refine Rn_mono (Rn_and (j_api (xs := [.ref (u 40), .int (x 1), .int (x 2)]) hmc hU hut (j_k97 mc hmc) rfl hJ1 ⟨Or.inr (ll_g40 hut), ⟨Or.inr (ll_gt), ⟨Or.inr (ll_gt), trivial⟩⟩⟩) (q_api (xs := [.ref (u 40), .int (x 1), .int (x 2)]) hmc hU hut (j_q97 mc hmc) rfl hJ1 ⟨Or.inr (ll_g40 hut), ⟨Or.inr (ll_gt), ⟨Or.inr (ll_gt), trivial⟩⟩⟩)) (fun r hr => ?_)
    obtain ⟨hr, hf2⟩ := hr
    obtain ⟨v2, h2, k2, q2, rfl, hv, hJ2, hk2, hq2, -⟩ := hr
    rcases hv with ⟨e, -⟩ | ⟨-, z2, rfl⟩
    · cases e
    · refine ⟨some (.int z2), h2, k2, q2, rfl, ?_⟩
      show ll_R (ll_x l kn) (589, ll_lo u zi (some (.int z1)) (o6), [.int z2], h2, k + k1 + k2, q + q1 + q2) Q
      refine ll_st ll_i589 (S' := (591, ll_lo u zi (some (.int z1)) (some (.int z2)), [], h2, k + k1 + k2, q + q1 + q2)) rfl ?_
      refine ll_st ll_i591 (S' := (794, ll_lo u zi (some (.int z1)) (some (.int z2)), [], h2, k + k1 + k2, q + q1 + q2)) rfl ?_
      exact hn _ _ _ _ _ ⟨(ii_k hut hJ (q_trans hf1 hf2) hii), τ, mc, T, hmc, hU, hut, ⟨hT.1, by omega⟩, hJ2, by omega, by omega⟩
set_option maxRecDepth 100000 in
theorem ll_k13 {u : Nat → Nat} {l : Nat} {kn : List (Nat × Int32)} {N : Nat} (hN : N < 512) {zi : Int32} {x : Nat → Int32} (ha : ll_a l kn zi x) {o5 o6 : Option Value} {h : am_H} {k q : Nat} (hI : ll_I u N h k q) {Q : am_R → Prop} (hn : ∀ o5 o6 h k q, ll_I u (N + 1) h k q → ll_R (ll_x l kn) (794, ll_lo u zi o5 o6, [], h, k, q) Q) : ll_R (ll_x l kn) (594, ll_lo u zi o5 o6, [], h, k, q) Q := by
  obtain ⟨hii, τ, mc, T, hmc, hU, hut, hT, hJ, hk, hq⟩ := hI
  refine ll_st ll_i594 (S' := (595, ll_lo u zi (o5) (o6), [.ref (u 1)], h, k, q)) rfl ?_
  refine ll_arg (c := 1) (zi := zi) (x := x 1) rfl rfl ll_i595 ll_i596 ll_i598 ll_i599 ll_i600 (ha 1 (by decide)).1 (ha 1 (by decide)).2 ?_
  refine ll_arg (c := 2) (zi := zi) (x := x 2) rfl rfl ll_i601 ll_i602 ll_i604 ll_i605 ll_i606 (ha 2 (by decide)).1 (ha 2 (by decide)).2 ?_
  refine ll_arg (c := 3) (zi := zi) (x := x 3) rfl rfl ll_i607 ll_i608 ll_i610 ll_i611 ll_i612 (ha 3 (by decide)).1 (ha 3 (by decide)).2 ?_
  refine ll_st ll_i613 (S' := (614, ll_lo u zi (o5) (o6), [.ref (u 39), .int (x 3), .int (x 2), .int (x 1), .ref (u 1)], h, k, q)) rfl ?_
  refine ll_ca ll_i614 (j := 131) (as := [.ref (u 1), .int (x 1), .int (x 2), .int (x 3), .ref (u 39)]) (pc' := 614) (lo' := ll_lo u zi (o5) (o6)) (st' := []) (h' := h) (k1 := k) (q1 := q) rfl (mj := am_m131) rfl ⟨by decide, by decide, Nat.le_of_ble_eq_true rfl⟩ ?_
  refine Rn_mono (Rn_and (j_apic (xs := [.ref (u 1), .int (x 1), .int (x 2), .int (x 3), .ref (u 39)]) hmc hU hut (j_k131 mc hmc) rfl hJ ⟨Or.inr (ll_g1 hut), ⟨Or.inr (ll_gt), ⟨Or.inr (ll_gt), ⟨Or.inr (ll_gt), ⟨Or.inr (ll_g39 hut), trivial⟩⟩⟩⟩⟩) (q_apic (xs := [.ref (u 1), .int (x 1), .int (x 2), .int (x 3), .ref (u 39)]) hmc hU hut (j_q131 mc hmc) rfl hJ ⟨Or.inr (ll_g1 hut), ⟨Or.inr (ll_gt), ⟨Or.inr (ll_gt), ⟨Or.inr (ll_gt), ⟨Or.inr (ll_g39 hut), trivial⟩⟩⟩⟩⟩)) (fun r hr => ?_)
  obtain ⟨hr, hf1⟩ := hr
  obtain ⟨v1, h1, k1, q1, rfl, hv, hJ1, hk1, hq1, -⟩ := hr
  rcases hv with ⟨e, -⟩ | ⟨-, z1, rfl⟩
  · cases e
  · refine ⟨some (.int z1), h1, k1, q1, rfl, ?_⟩
    show ll_R (ll_x l kn) (617, ll_lo u zi (o5) (o6), [.int z1], h1, k + k1, q + q1) Q
    refine ll_st ll_i617 (S' := (619, ll_lo u zi (some (.int z1)) (o6), [], h1, k + k1, q + q1)) rfl ?_
    refine ll_st ll_i619 (S' := (620, ll_lo u zi (some (.int z1)) (o6), [.ref (u 40)], h1, k + k1, q + q1)) rfl ?_
    refine ll_arg (c := 1) (zi := zi) (x := x 1) rfl rfl ll_i620 ll_i621 ll_i623 ll_i624 ll_i625 (ha 1 (by decide)).1 (ha 1 (by decide)).2 ?_
    refine ll_arg (c := 2) (zi := zi) (x := x 2) rfl rfl ll_i626 ll_i627 ll_i629 ll_i630 ll_i631 (ha 2 (by decide)).1 (ha 2 (by decide)).2 ?_
    refine ll_arg (c := 3) (zi := zi) (x := x 3) rfl rfl ll_i632 ll_i633 ll_i635 ll_i636 ll_i637 (ha 3 (by decide)).1 (ha 3 (by decide)).2 ?_
    obtain ⟨vs2, hv2⟩ := ll_c40 hut hJ1
    refine ll_iv (as := [.int (x 1), .int (x 2), .int (x 3)]) (r := []) ll_i638 (j := 91) (b := 3) (d := 9) (by decide +kernel) hv2 rfl rfl rfl (Nat.le_of_ble_eq_true rfl) (mj := am_m91) rfl ⟨by decide, by decide, Nat.le_of_ble_eq_true rfl⟩ ?_
    refine Rn_mono (Rn_and (j_api (xs := [.ref (u 40), .int (x 1), .int (x 2), .int (x 3)]) hmc hU hut (j_k91 mc hmc) rfl hJ1 ⟨Or.inr (ll_g40 hut), ⟨Or.inr (ll_gt), ⟨Or.inr (ll_gt), ⟨Or.inr (ll_gt), trivial⟩⟩⟩⟩) (q_api (xs := [.ref (u 40), .int (x 1), .int (x 2), .int (x 3)]) hmc hU hut (j_q91 mc hmc) rfl hJ1 ⟨Or.inr (ll_g40 hut), ⟨Or.inr (ll_gt), ⟨Or.inr (ll_gt), ⟨Or.inr (ll_gt), trivial⟩⟩⟩⟩)) (fun r hr => ?_)
    obtain ⟨hr, hf2⟩ := hr
    obtain ⟨v2, h2, k2, q2, rfl, hv, hJ2, hk2, hq2, -⟩ := hr
    rcases hv with ⟨e, -⟩ | ⟨-, z2, rfl⟩
    · cases e
    · refine ⟨some (.int z2), h2, k2, q2, rfl, ?_⟩
      show ll_R (ll_x l kn) (641, ll_lo u zi (some (.int z1)) (o6), [.int z2], h2, k + k1 + k2, q + q1 + q2) Q
      refine ll_st ll_i641 (S' := (643, ll_lo u zi (some (.int z1)) (some (.int z2)), [], h2, k + k1 + k2, q + q1 + q2)) rfl ?_
      refine ll_st ll_i643 (S' := (794, ll_lo u zi (some (.int z1)) (some (.int z2)), [], h2, k + k1 + k2, q + q1 + q2)) rfl ?_
      exact hn _ _ _ _ _ ⟨(ii_k hut hJ (q_trans hf1 hf2) hii), τ, mc, T, hmc, hU, hut, ⟨hT.1, by omega⟩, hJ2, by omega, by omega⟩
set_option maxRecDepth 100000 in
theorem ll_k14 {u : Nat → Nat} {l : Nat} {kn : List (Nat × Int32)} {N : Nat} (hN : N < 512) {zi : Int32} {x : Nat → Int32} (ha : ll_a l kn zi x) {o5 o6 : Option Value} {h : am_H} {k q : Nat} (hI : ll_I u N h k q) {Q : am_R → Prop} (hn : ∀ o5 o6 h k q, ll_I u (N + 1) h k q → ll_R (ll_x l kn) (794, ll_lo u zi o5 o6, [], h, k, q) Q) : ll_R (ll_x l kn) (646, ll_lo u zi o5 o6, [], h, k, q) Q := by
  obtain ⟨hii, τ, mc, T, hmc, hU, hut, hT, hJ, hk, hq⟩ := hI
  refine ll_st ll_i646 (S' := (647, ll_lo u zi (o5) (o6), [.ref (u 1)], h, k, q)) rfl ?_
  refine ll_arg (c := 1) (zi := zi) (x := x 1) rfl rfl ll_i647 ll_i648 ll_i650 ll_i651 ll_i652 (ha 1 (by decide)).1 (ha 1 (by decide)).2 ?_
  refine ll_arg (c := 2) (zi := zi) (x := x 2) rfl rfl ll_i653 ll_i654 ll_i656 ll_i657 ll_i658 (ha 2 (by decide)).1 (ha 2 (by decide)).2 ?_
  refine ll_st ll_i659 (S' := (660, ll_lo u zi (o5) (o6), [.ref (u 39), .int (x 2), .int (x 1), .ref (u 1)], h, k, q)) rfl ?_
  refine ll_ca ll_i660 (j := 134) (as := [.ref (u 1), .int (x 1), .int (x 2), .ref (u 39)]) (pc' := 660) (lo' := ll_lo u zi (o5) (o6)) (st' := []) (h' := h) (k1 := k) (q1 := q) rfl (mj := am_m134) rfl ⟨by decide, by decide, Nat.le_of_ble_eq_true rfl⟩ ?_
  refine Rn_mono (Rn_and (j_apic (xs := [.ref (u 1), .int (x 1), .int (x 2), .ref (u 39)]) hmc hU hut (j_k134 mc hmc) rfl hJ ⟨Or.inr (ll_g1 hut), ⟨Or.inr (ll_gt), ⟨Or.inr (ll_gt), ⟨Or.inr (ll_g39 hut), trivial⟩⟩⟩⟩) (q_apic (xs := [.ref (u 1), .int (x 1), .int (x 2), .ref (u 39)]) hmc hU hut (j_q134 mc hmc) rfl hJ ⟨Or.inr (ll_g1 hut), ⟨Or.inr (ll_gt), ⟨Or.inr (ll_gt), ⟨Or.inr (ll_g39 hut), trivial⟩⟩⟩⟩)) (fun r hr => ?_)
  obtain ⟨hr, hf1⟩ := hr
  obtain ⟨v1, h1, k1, q1, rfl, hv, hJ1, hk1, hq1, -⟩ := hr
  rcases hv with ⟨e, -⟩ | ⟨-, z1, rfl⟩
  · cases e
  · refine ⟨some (.int z1), h1, k1, q1, rfl, ?_⟩
    show ll_R (ll_x l kn) (663, ll_lo u zi (o5) (o6), [.int z1], h1, k + k1, q + q1) Q
    refine ll_st ll_i663 (S' := (665, ll_lo u zi (some (.int z1)) (o6), [], h1, k + k1, q + q1)) rfl ?_
    refine ll_st ll_i665 (S' := (666, ll_lo u zi (some (.int z1)) (o6), [.ref (u 40)], h1, k + k1, q + q1)) rfl ?_
    refine ll_arg (c := 1) (zi := zi) (x := x 1) rfl rfl ll_i666 ll_i667 ll_i669 ll_i670 ll_i671 (ha 1 (by decide)).1 (ha 1 (by decide)).2 ?_
    refine ll_arg (c := 2) (zi := zi) (x := x 2) rfl rfl ll_i672 ll_i673 ll_i675 ll_i676 ll_i677 (ha 2 (by decide)).1 (ha 2 (by decide)).2 ?_
    obtain ⟨vs2, hv2⟩ := ll_c40 hut hJ1
    refine ll_iv (as := [.int (x 1), .int (x 2)]) (r := []) ll_i678 (j := 103) (b := 2) (d := 9) (by decide +kernel) hv2 rfl rfl rfl (Nat.le_of_ble_eq_true rfl) (mj := am_m103) rfl ⟨by decide, by decide, Nat.le_of_ble_eq_true rfl⟩ ?_
    refine Rn_mono (Rn_and (j_api (xs := [.ref (u 40), .int (x 1), .int (x 2)]) hmc hU hut (j_k103 mc hmc) rfl hJ1 ⟨Or.inr (ll_g40 hut), ⟨Or.inr (ll_gt), ⟨Or.inr (ll_gt), trivial⟩⟩⟩) (q_api (xs := [.ref (u 40), .int (x 1), .int (x 2)]) hmc hU hut (j_q103 mc hmc) rfl hJ1 ⟨Or.inr (ll_g40 hut), ⟨Or.inr (ll_gt), ⟨Or.inr (ll_gt), trivial⟩⟩⟩)) (fun r hr => ?_)
    obtain ⟨hr, hf2⟩ := hr
    obtain ⟨v2, h2, k2, q2, rfl, hv, hJ2, hk2, hq2, -⟩ := hr
    rcases hv with ⟨e, -⟩ | ⟨-, z2, rfl⟩
    · cases e
    · refine ⟨some (.int z2), h2, k2, q2, rfl, ?_⟩
      show ll_R (ll_x l kn) (681, ll_lo u zi (some (.int z1)) (o6), [.int z2], h2, k + k1 + k2, q + q1 + q2) Q
      refine ll_st ll_i681 (S' := (683, ll_lo u zi (some (.int z1)) (some (.int z2)), [], h2, k + k1 + k2, q + q1 + q2)) rfl ?_
      refine ll_st ll_i683 (S' := (794, ll_lo u zi (some (.int z1)) (some (.int z2)), [], h2, k + k1 + k2, q + q1 + q2)) rfl ?_
      exact hn _ _ _ _ _ ⟨(ii_k hut hJ (q_trans hf1 hf2) hii), τ, mc, T, hmc, hU, hut, ⟨hT.1, by omega⟩, hJ2, by omega, by omega⟩
set_option maxRecDepth 100000 in
theorem ll_k15 {u : Nat → Nat} {l : Nat} {kn : List (Nat × Int32)} {N : Nat} (hN : N < 512) {zi : Int32} {x : Nat → Int32} (ha : ll_a l kn zi x) {o5 o6 : Option Value} {h : am_H} {k q : Nat} (hI : ll_I u N h k q) {Q : am_R → Prop} (hn : ∀ o5 o6 h k q, ll_I u (N + 1) h k q → ll_R (ll_x l kn) (794, ll_lo u zi o5 o6, [], h, k, q) Q) : ll_R (ll_x l kn) (686, ll_lo u zi o5 o6, [], h, k, q) Q := by
  obtain ⟨hii, τ, mc, T, hmc, hU, hut, hT, hJ, hk, hq⟩ := hI
  refine ll_st ll_i686 (S' := (687, ll_lo u zi (o5) (o6), [.ref (u 1)], h, k, q)) rfl ?_
  refine ll_arg (c := 1) (zi := zi) (x := x 1) rfl rfl ll_i687 ll_i688 ll_i690 ll_i691 ll_i692 (ha 1 (by decide)).1 (ha 1 (by decide)).2 ?_
  refine ll_st ll_i693 (S' := (694, ll_lo u zi (o5) (o6), [.ref (u 39), .int (x 1), .ref (u 1)], h, k, q)) rfl ?_
  refine ll_ca ll_i694 (j := 140) (as := [.ref (u 1), .int (x 1), .ref (u 39)]) (pc' := 694) (lo' := ll_lo u zi (o5) (o6)) (st' := []) (h' := h) (k1 := k) (q1 := q) rfl (mj := am_m140) rfl ⟨by decide, by decide, Nat.le_of_ble_eq_true rfl⟩ ?_
  refine Rn_mono (Rn_and (j_apic (xs := [.ref (u 1), .int (x 1), .ref (u 39)]) hmc hU hut (j_k140 mc hmc) rfl hJ ⟨Or.inr (ll_g1 hut), ⟨Or.inr (ll_gt), ⟨Or.inr (ll_g39 hut), trivial⟩⟩⟩) (q_apic (xs := [.ref (u 1), .int (x 1), .ref (u 39)]) hmc hU hut (j_q140 mc hmc) rfl hJ ⟨Or.inr (ll_g1 hut), ⟨Or.inr (ll_gt), ⟨Or.inr (ll_g39 hut), trivial⟩⟩⟩)) (fun r hr => ?_)
  obtain ⟨hr, hf1⟩ := hr
  obtain ⟨v1, h1, k1, q1, rfl, hv, hJ1, hk1, hq1, -⟩ := hr
  rcases hv with ⟨e, -⟩ | ⟨-, z1, rfl⟩
  · cases e
  · refine ⟨some (.int z1), h1, k1, q1, rfl, ?_⟩
    show ll_R (ll_x l kn) (697, ll_lo u zi (o5) (o6), [.int z1], h1, k + k1, q + q1) Q
    refine ll_st ll_i697 (S' := (699, ll_lo u zi (some (.int z1)) (o6), [], h1, k + k1, q + q1)) rfl ?_
    refine ll_st ll_i699 (S' := (700, ll_lo u zi (some (.int z1)) (o6), [.ref (u 40)], h1, k + k1, q + q1)) rfl ?_
    refine ll_arg (c := 1) (zi := zi) (x := x 1) rfl rfl ll_i700 ll_i701 ll_i703 ll_i704 ll_i705 (ha 1 (by decide)).1 (ha 1 (by decide)).2 ?_
    obtain ⟨vs2, hv2⟩ := ll_c40 hut hJ1
    refine ll_iv (as := [.int (x 1)]) (r := []) ll_i706 (j := 118) (b := 1) (d := 9) (by decide +kernel) hv2 rfl rfl rfl (Nat.le_of_ble_eq_true rfl) (mj := am_m118) rfl ⟨by decide, by decide, Nat.le_of_ble_eq_true rfl⟩ ?_
    refine Rn_mono (Rn_and (j_api (xs := [.ref (u 40), .int (x 1)]) hmc hU hut (j_k118 mc hmc) rfl hJ1 ⟨Or.inr (ll_g40 hut), ⟨Or.inr (ll_gt), trivial⟩⟩) (q_api (xs := [.ref (u 40), .int (x 1)]) hmc hU hut (j_q118 mc hmc) rfl hJ1 ⟨Or.inr (ll_g40 hut), ⟨Or.inr (ll_gt), trivial⟩⟩)) (fun r hr => ?_)
    obtain ⟨hr, hf2⟩ := hr
    obtain ⟨v2, h2, k2, q2, rfl, hv, hJ2, hk2, hq2, -⟩ := hr
    rcases hv with ⟨e, -⟩ | ⟨-, z2, rfl⟩
    · cases e
    · refine ⟨some (.int z2), h2, k2, q2, rfl, ?_⟩
      show ll_R (ll_x l kn) (709, ll_lo u zi (some (.int z1)) (o6), [.int z2], h2, k + k1 + k2, q + q1 + q2) Q
      refine ll_st ll_i709 (S' := (711, ll_lo u zi (some (.int z1)) (some (.int z2)), [], h2, k + k1 + k2, q + q1 + q2)) rfl ?_
      refine ll_st ll_i711 (S' := (794, ll_lo u zi (some (.int z1)) (some (.int z2)), [], h2, k + k1 + k2, q + q1 + q2)) rfl ?_
      exact hn _ _ _ _ _ ⟨(ii_k hut hJ (q_trans hf1 hf2) hii), τ, mc, T, hmc, hU, hut, ⟨hT.1, by omega⟩, hJ2, by omega, by omega⟩
set_option maxRecDepth 100000 in
theorem ll_k16 {u : Nat → Nat} {l : Nat} {kn : List (Nat × Int32)} {N : Nat} (hN : N < 512) {zi : Int32} {x : Nat → Int32} (ha : ll_a l kn zi x) {o5 o6 : Option Value} {h : am_H} {k q : Nat} (hI : ll_I u N h k q) {Q : am_R → Prop} (hn : ∀ o5 o6 h k q, ll_I u (N + 1) h k q → ll_R (ll_x l kn) (794, ll_lo u zi o5 o6, [], h, k, q) Q) : ll_R (ll_x l kn) (714, ll_lo u zi o5 o6, [], h, k, q) Q := by
  obtain ⟨hii, τ, mc, T, hmc, hU, hut, hT, hJ, hk, hq⟩ := hI
  refine ll_st ll_i714 (S' := (715, ll_lo u zi (o5) (o6), [.ref (u 1)], h, k, q)) rfl ?_
  refine ll_arg (c := 1) (zi := zi) (x := x 1) rfl rfl ll_i715 ll_i716 ll_i718 ll_i719 ll_i720 (ha 1 (by decide)).1 (ha 1 (by decide)).2 ?_
  refine ll_arg (c := 2) (zi := zi) (x := x 2) rfl rfl ll_i721 ll_i722 ll_i724 ll_i725 ll_i726 (ha 2 (by decide)).1 (ha 2 (by decide)).2 ?_
  refine ll_st ll_i727 (S' := (728, ll_lo u zi (o5) (o6), [.ref (u 39), .int (x 2), .int (x 1), .ref (u 1)], h, k, q)) rfl ?_
  refine ll_ca ll_i728 (j := 139) (as := [.ref (u 1), .int (x 1), .int (x 2), .ref (u 39)]) (pc' := 728) (lo' := ll_lo u zi (o5) (o6)) (st' := []) (h' := h) (k1 := k) (q1 := q) rfl (mj := am_m139) rfl ⟨by decide, by decide, Nat.le_of_ble_eq_true rfl⟩ ?_
  refine Rn_mono (Rn_and (j_apic (xs := [.ref (u 1), .int (x 1), .int (x 2), .ref (u 39)]) hmc hU hut (j_k139 mc hmc) rfl hJ ⟨Or.inr (ll_g1 hut), ⟨Or.inr (ll_gt), ⟨Or.inr (ll_gt), ⟨Or.inr (ll_g39 hut), trivial⟩⟩⟩⟩) (q_apic (xs := [.ref (u 1), .int (x 1), .int (x 2), .ref (u 39)]) hmc hU hut (j_q139 mc hmc) rfl hJ ⟨Or.inr (ll_g1 hut), ⟨Or.inr (ll_gt), ⟨Or.inr (ll_gt), ⟨Or.inr (ll_g39 hut), trivial⟩⟩⟩⟩)) (fun r hr => ?_)
  obtain ⟨hr, hf1⟩ := hr
  obtain ⟨v1, h1, k1, q1, rfl, hv, hJ1, hk1, hq1, -⟩ := hr
  rcases hv with ⟨e, -⟩ | ⟨-, z1, rfl⟩
  · cases e
  · refine ⟨some (.int z1), h1, k1, q1, rfl, ?_⟩
    show ll_R (ll_x l kn) (731, ll_lo u zi (o5) (o6), [.int z1], h1, k + k1, q + q1) Q
    refine ll_st ll_i731 (S' := (733, ll_lo u zi (some (.int z1)) (o6), [], h1, k + k1, q + q1)) rfl ?_
    refine ll_st ll_i733 (S' := (734, ll_lo u zi (some (.int z1)) (o6), [.ref (u 40)], h1, k + k1, q + q1)) rfl ?_
    refine ll_arg (c := 1) (zi := zi) (x := x 1) rfl rfl ll_i734 ll_i735 ll_i737 ll_i738 ll_i739 (ha 1 (by decide)).1 (ha 1 (by decide)).2 ?_
    refine ll_arg (c := 2) (zi := zi) (x := x 2) rfl rfl ll_i740 ll_i741 ll_i743 ll_i744 ll_i745 (ha 2 (by decide)).1 (ha 2 (by decide)).2 ?_
    obtain ⟨vs2, hv2⟩ := ll_c40 hut hJ1
    refine ll_iv (as := [.int (x 1), .int (x 2)]) (r := []) ll_i746 (j := 117) (b := 2) (d := 9) (by decide +kernel) hv2 rfl rfl rfl (Nat.le_of_ble_eq_true rfl) (mj := am_m117) rfl ⟨by decide, by decide, Nat.le_of_ble_eq_true rfl⟩ ?_
    refine Rn_mono (Rn_and (j_api (xs := [.ref (u 40), .int (x 1), .int (x 2)]) hmc hU hut (j_k117 mc hmc) rfl hJ1 ⟨Or.inr (ll_g40 hut), ⟨Or.inr (ll_gt), ⟨Or.inr (ll_gt), trivial⟩⟩⟩) (q_api (xs := [.ref (u 40), .int (x 1), .int (x 2)]) hmc hU hut (j_q117 mc hmc) rfl hJ1 ⟨Or.inr (ll_g40 hut), ⟨Or.inr (ll_gt), ⟨Or.inr (ll_gt), trivial⟩⟩⟩)) (fun r hr => ?_)
    obtain ⟨hr, hf2⟩ := hr
    obtain ⟨v2, h2, k2, q2, rfl, hv, hJ2, hk2, hq2, -⟩ := hr
    rcases hv with ⟨e, -⟩ | ⟨-, z2, rfl⟩
    · cases e
    · refine ⟨some (.int z2), h2, k2, q2, rfl, ?_⟩
      show ll_R (ll_x l kn) (749, ll_lo u zi (some (.int z1)) (o6), [.int z2], h2, k + k1 + k2, q + q1 + q2) Q
      refine ll_st ll_i749 (S' := (751, ll_lo u zi (some (.int z1)) (some (.int z2)), [], h2, k + k1 + k2, q + q1 + q2)) rfl ?_
      refine ll_st ll_i751 (S' := (794, ll_lo u zi (some (.int z1)) (some (.int z2)), [], h2, k + k1 + k2, q + q1 + q2)) rfl ?_
      exact hn _ _ _ _ _ ⟨(ii_k hut hJ (q_trans hf1 hf2) hii), τ, mc, T, hmc, hU, hut, ⟨hT.1, by omega⟩, hJ2, by omega, by omega⟩
set_option maxRecDepth 100000 in
theorem ll_k17 {u : Nat → Nat} {l : Nat} {kn : List (Nat × Int32)} {N : Nat} (hN : N < 512) {zi : Int32} {x : Nat → Int32} (ha : ll_a l kn zi x) {o5 o6 : Option Value} {h : am_H} {k q : Nat} (hI : ll_I u N h k q) {Q : am_R → Prop} (hn : ∀ o5 o6 h k q, ll_I u (N + 1) h k q → ll_R (ll_x l kn) (794, ll_lo u zi o5 o6, [], h, k, q) Q) : ll_R (ll_x l kn) (754, ll_lo u zi o5 o6, [], h, k, q) Q := by
  obtain ⟨hii, τ, mc, T, hmc, hU, hut, hT, hJ, hk, hq⟩ := hI
  refine ll_st ll_i754 (S' := (755, ll_lo u zi (o5) (o6), [.ref (u 1)], h, k, q)) rfl ?_
  refine ll_arg (c := 1) (zi := zi) (x := x 1) rfl rfl ll_i755 ll_i756 ll_i758 ll_i759 ll_i760 (ha 1 (by decide)).1 (ha 1 (by decide)).2 ?_
  refine ll_arg (c := 2) (zi := zi) (x := x 2) rfl rfl ll_i761 ll_i762 ll_i764 ll_i765 ll_i766 (ha 2 (by decide)).1 (ha 2 (by decide)).2 ?_
  refine ll_st ll_i767 (S' := (768, ll_lo u zi (o5) (o6), [.ref (u 39), .int (x 2), .int (x 1), .ref (u 1)], h, k, q)) rfl ?_
  refine ll_ca ll_i768 (j := 143) (as := [.ref (u 1), .int (x 1), .int (x 2), .ref (u 39)]) (pc' := 768) (lo' := ll_lo u zi (o5) (o6)) (st' := []) (h' := h) (k1 := k) (q1 := q) rfl (mj := am_m143) rfl ⟨by decide, by decide, Nat.le_of_ble_eq_true rfl⟩ ?_
  refine Rn_mono (Rn_and (j_apic (xs := [.ref (u 1), .int (x 1), .int (x 2), .ref (u 39)]) hmc hU hut (j_k143 mc hmc) rfl hJ ⟨Or.inr (ll_g1 hut), ⟨Or.inr (ll_gt), ⟨Or.inr (ll_gt), ⟨Or.inr (ll_g39 hut), trivial⟩⟩⟩⟩) (q_apic (xs := [.ref (u 1), .int (x 1), .int (x 2), .ref (u 39)]) hmc hU hut (j_q143 mc hmc) rfl hJ ⟨Or.inr (ll_g1 hut), ⟨Or.inr (ll_gt), ⟨Or.inr (ll_gt), ⟨Or.inr (ll_g39 hut), trivial⟩⟩⟩⟩)) (fun r hr => ?_)
  obtain ⟨hr, hf1⟩ := hr
  obtain ⟨v1, h1, k1, q1, rfl, hv, hJ1, hk1, hq1, -⟩ := hr
  rcases hv with ⟨e, -⟩ | ⟨-, z1, rfl⟩
  · cases e
  · refine ⟨some (.int z1), h1, k1, q1, rfl, ?_⟩
    show ll_R (ll_x l kn) (771, ll_lo u zi (o5) (o6), [.int z1], h1, k + k1, q + q1) Q
    refine ll_st ll_i771 (S' := (773, ll_lo u zi (some (.int z1)) (o6), [], h1, k + k1, q + q1)) rfl ?_
    refine ll_st ll_i773 (S' := (774, ll_lo u zi (some (.int z1)) (o6), [.ref (u 40)], h1, k + k1, q + q1)) rfl ?_
    refine ll_arg (c := 1) (zi := zi) (x := x 1) rfl rfl ll_i774 ll_i775 ll_i777 ll_i778 ll_i779 (ha 1 (by decide)).1 (ha 1 (by decide)).2 ?_
    refine ll_arg (c := 2) (zi := zi) (x := x 2) rfl rfl ll_i780 ll_i781 ll_i783 ll_i784 ll_i785 (ha 2 (by decide)).1 (ha 2 (by decide)).2 ?_
    obtain ⟨vs2, hv2⟩ := ll_c40 hut hJ1
    refine ll_iv (as := [.int (x 1), .int (x 2)]) (r := []) ll_i786 (j := 127) (b := 2) (d := 9) (by decide +kernel) hv2 rfl rfl rfl (Nat.le_of_ble_eq_true rfl) (mj := am_m127) rfl ⟨by decide, by decide, Nat.le_of_ble_eq_true rfl⟩ ?_
    refine Rn_mono (Rn_and (j_api (xs := [.ref (u 40), .int (x 1), .int (x 2)]) hmc hU hut (j_k127 mc hmc) rfl hJ1 ⟨Or.inr (ll_g40 hut), ⟨Or.inr (ll_gt), ⟨Or.inr (ll_gt), trivial⟩⟩⟩) (q_api (xs := [.ref (u 40), .int (x 1), .int (x 2)]) hmc hU hut (j_q127 mc hmc) rfl hJ1 ⟨Or.inr (ll_g40 hut), ⟨Or.inr (ll_gt), ⟨Or.inr (ll_gt), trivial⟩⟩⟩)) (fun r hr => ?_)
    obtain ⟨hr, hf2⟩ := hr
    obtain ⟨v2, h2, k2, q2, rfl, hv, hJ2, hk2, hq2, -⟩ := hr
    rcases hv with ⟨e, -⟩ | ⟨-, z2, rfl⟩
    · cases e
    · refine ⟨some (.int z2), h2, k2, q2, rfl, ?_⟩
      show ll_R (ll_x l kn) (789, ll_lo u zi (some (.int z1)) (o6), [.int z2], h2, k + k1 + k2, q + q1 + q2) Q
      refine ll_st ll_i789 (S' := (791, ll_lo u zi (some (.int z1)) (some (.int z2)), [], h2, k + k1 + k2, q + q1 + q2)) rfl ?_
      refine ll_st ll_i791 (S' := (794, ll_lo u zi (some (.int z1)) (some (.int z2)), [], h2, k + k1 + k2, q + q1 + q2)) rfl ?_
      exact hn _ _ _ _ _ ⟨(ii_k hut hJ (q_trans hf1 hf2) hii), τ, mc, T, hmc, hU, hut, ⟨hT.1, by omega⟩, hJ2, by omega, by omega⟩
set_option maxRecDepth 100000 in
theorem ll_k1 {u : Nat → Nat} {l : Nat} {kn : List (Nat × Int32)} {N : Nat} (hN : N < 512) {zi : Int32} {x : Nat → Int32} (ha : ll_a l kn zi x) {o5 o6 : Option Value} {h : am_H} {k q : Nat} (hI : ll_I u N h k q) {Q : am_R → Prop} (hn : ∀ o5 o6 h k q, ll_I u (N + 1) h k q → ll_R (ll_x l kn) (794, ll_lo u zi o5 o6, [], h, k, q) Q) : ll_R (ll_x l kn) (176, ll_lo u zi o5 o6, [], h, k, q) Q := by
  obtain ⟨hii, τ, mc, T, hmc, hU, hut, hT, hJ, hk, hq⟩ := hI
  obtain ⟨zc, hzc, zq1, zq2⟩ := kc_int hJ.1 (hut 1 (by decide +kernel)) (by decide) (i := 5) (by decide) (lo := Nat.add 2147483648 mc) (hi := Nat.add 2147483648 mc) rfl
  rw [md_a] at zq1 zq2
  have hc5 : ab_b zc = 2147483648 + mc := by omega
  refine ll_st ll_i176 (S' := (177, ll_lo u zi o5 o6, [.ref (u 1)], h, k, q)) rfl ?_
  refine ll_arg (c := 1) (zi := zi) (x := x 1) rfl rfl ll_i177 ll_i178 ll_i180 ll_i181 ll_i182 (ha 1 (by decide)).1 (ha 1 (by decide)).2 ?_
  refine ll_arg (c := 2) (zi := zi) (x := x 2) rfl rfl ll_i183 ll_i184 ll_i186 ll_i187 ll_i188 (ha 2 (by decide)).1 (ha 2 (by decide)).2 ?_
  refine ll_ca ll_i189 (j := 138) (as := [.ref (u 1), .int (x 1), .int (x 2)]) (pc' := 189) (lo' := ll_lo u zi o5 o6) (st' := []) (h' := h) (k1 := k) (q1 := q) rfl (mj := am_m138) rfl ⟨by decide, by decide, Nat.le_of_ble_eq_true rfl⟩ ?_
  have hA1 : ab_gA τ 2147483648 (kc_rho u 0) [(1, 16, 0), ab_top, ab_top] [.ref (u 1), .int (x 1), .int (x 2)] := ⟨Or.inr (ll_g1 hut), ⟨Or.inr (ll_gt), ⟨Or.inr (ll_gt), trivial⟩⟩⟩
  refine Rn_mono (Rn_rd (Rn_and (j_apic hmc hU hut (j_k138 mc hmc) rfl hJ hA1) (q_move hmc hU hut hJ hA1))) (fun r hr => ?_)
  obtain ⟨⟨⟨v1, h1, k1, q1, rfl, -, hJ1, hk1, hq1, -⟩, hqm⟩, hrd⟩ := hr
  obtain ⟨w1, h1b, k1b, q1b, er, hc1⟩ := ml_move hmc hU hut hJ hzc hc5 hrd
  cases er
  refine ⟨some (.int w1), h1, k1, q1, rfl, ?_⟩
  show ll_R (ll_x l kn) (192, ll_lo u zi o5 o6, [.int w1], h1, k + k1, q + q1) Q
  refine ll_st ll_i192 (S' := (194, ll_lo u zi (some (.int w1)) o6, [], h1, k + k1, q + q1)) rfl ?_
  refine ll_st ll_i194 (S' := (195, ll_lo u zi (some (.int w1)) o6, [.ref (u 40)], h1, k + k1, q + q1)) rfl ?_
  refine ll_arg (c := 1) (zi := zi) (x := x 1) rfl rfl ll_i195 ll_i196 ll_i198 ll_i199 ll_i200 (ha 1 (by decide)).1 (ha 1 (by decide)).2 ?_
  refine ll_arg (c := 2) (zi := zi) (x := x 2) rfl rfl ll_i201 ll_i202 ll_i204 ll_i205 ll_i206 (ha 2 (by decide)).1 (ha 2 (by decide)).2 ?_
  obtain ⟨vs2, hv2⟩ := ll_c40 hut hJ1
  refine ll_iv (as := [.int (x 1), .int (x 2)]) (r := []) ll_i207 (j := 110) (b := 2) (d := 9) (by decide +kernel) hv2 rfl rfl rfl (Nat.le_of_ble_eq_true rfl) (mj := am_m110) rfl ⟨by decide, by decide, Nat.le_of_ble_eq_true rfl⟩ ?_
  refine Rn_mono (jm_moveQ hmc hU hut hJ1 (x 1) (x 2)) (fun r hr => ?_)
  obtain ⟨h2, rfl, hJ2, -, hmv⟩ := hr
  obtain ⟨zt, hii2⟩ := ii_mv hut hJ hJ1 hc5 hqm hc1 hmv hii
  refine ⟨none, h2, 0, 0, rfl, ?_⟩
  show ll_R (ll_x l kn) (210, ll_lo u zi (some (.int w1)) o6, [], h2, k + k1 + 0, q + q1 + 0) Q
  refine ll_st ll_i210 (S' := (211, ll_lo u zi (some (.int w1)) (o6), [.ref (u 40)], h2, k + k1 + 0, q + q1 + 0)) rfl ?_
  obtain ⟨vt, hvt⟩ := ll_c40 hut hJ2
  refine ll_iv (as := []) (r := []) ll_i211 (j := 146) (b := 0) (d := 9) (by decide +kernel) hvt rfl rfl rfl (Nat.le_of_ble_eq_true rfl) (mj := am_m146) rfl ⟨by decide, by decide, Nat.le_of_ble_eq_true rfl⟩ ?_
  refine Rn_mono (th_run hut hJ2 zt) (fun r hr => ?_)
  subst hr
  refine ⟨some (.int w1), h2, 0, 0, rfl, ?_⟩
  show ll_R (ll_x l kn) (214, ll_lo u zi (some (.int w1)) (o6), [.int w1], h2, k + k1 + 0 + 0, q + q1 + 0 + 0) Q
  refine ll_st ll_i214 (S' := (216, ll_lo u zi (some (.int w1)) (o6), [.int w1, .int w1], h2, k + k1 + 0 + 0, q + q1 + 0 + 0)) rfl ?_
  refine ll_st ll_i216 (S' := (221, ll_lo u zi (some (.int w1)) (o6), [], h2, k + k1 + 0 + 0, q + q1 + 0 + 0)) ?_ ?_
  · show am_br (decide ((w1 : Int32) = w1)) 216 5 (ll_lo u zi (some (.int w1)) (o6)) [] h2 (k + k1 + 0 + 0) (q + q1 + 0 + 0) = _
    rw [decide_eq_true rfl]
    rfl
  refine ll_st ll_i221 (S' := (794, ll_lo u zi (some (.int w1)) o6, [], h2, k + k1 + 0 + 0, q + q1 + 0 + 0)) rfl ?_
  exact hn _ _ _ _ _ ⟨hii2, τ, mc, T, hmc, hU, hut, ⟨hT.1, by omega⟩, hJ2, by omega, by omega⟩
set_option maxRecDepth 100000 in
theorem ll_k0 {u : Nat → Nat} {l : Nat} {kn : List (Nat × Int32)} {N : Nat} (hN : N < 512) {zi : Int32} {x : Nat → Int32} (ha : ll_a l kn zi x) {o5 o6 : Option Value} {h : am_H} {k q : Nat} (hI : ll_I u N h k q) {Q : am_R → Prop} (hn : ∀ o5 o6 h k q, ll_I u (N + 1) h k q → ll_R (ll_x l kn) (794, ll_lo u zi o5 o6, [], h, k, q) Q) : ll_R (ll_x l kn) (124, ll_lo u zi o5 o6, [], h, k, q) Q := by
  obtain ⟨hii, τ, mc, T, hmc, hU, hut, hT, hJ, hk, hq⟩ := hI
  refine ll_st ll_i124 (S' := (125, ll_lo u zi o5 o6, [.ref (u 1)], h, k, q)) rfl ?_
  refine ll_arg (c := 1) (zi := zi) (x := x 1) rfl rfl ll_i125 ll_i126 ll_i128 ll_i129 ll_i130 (ha 1 (by decide)).1 (ha 1 (by decide)).2 ?_
  refine ll_arg (c := 2) (zi := zi) (x := x 2) rfl rfl ll_i131 ll_i132 ll_i134 ll_i135 ll_i136 (ha 2 (by decide)).1 (ha 2 (by decide)).2 ?_
  refine ll_arg (c := 3) (zi := zi) (x := x 3) rfl rfl ll_i137 ll_i138 ll_i140 ll_i141 ll_i142 (ha 3 (by decide)).1 (ha 3 (by decide)).2 ?_
  refine ll_st ll_i143 (S' := (144, ll_lo u zi o5 o6, [.ref (u 39), .int (x 3), .int (x 2), .int (x 1), .ref (u 1)], h, k, q)) rfl ?_
  refine ll_ca ll_i144 (j := 137) (as := [.ref (u 1), .int (x 1), .int (x 2), .int (x 3), .ref (u 39)]) (pc' := 144) (lo' := ll_lo u zi o5 o6) (st' := []) (h' := h) (k1 := k) (q1 := q) rfl (mj := am_m137) rfl ⟨by decide, by decide, Nat.le_of_ble_eq_true rfl⟩ ?_
  refine Rn_mono (jl_machQ hmc hU hut hJ (x 1) (x 2) (x 3)) (fun r hr => ?_)
  obtain ⟨z1, h1, k1, q1, rfl, hk1, hq1, -, hcase⟩ := hr
  refine ⟨some (.int z1), h1, k1, q1, rfl, ?_⟩
  show ll_R (ll_x l kn) (147, ll_lo u zi o5 o6, [.int z1], h1, k + k1, q + q1) Q
  refine ll_st ll_i147 (S' := (149, ll_lo u zi (some (.int z1)) o6, [], h1, k + k1, q + q1)) rfl ?_
  refine ll_st ll_i149 (S' := (150, ll_lo u zi (some (.int z1)) o6, [.ref (u 40)], h1, k + k1, q + q1)) rfl ?_
  refine ll_arg (c := 1) (zi := zi) (x := x 1) rfl rfl ll_i150 ll_i151 ll_i153 ll_i154 ll_i155 (ha 1 (by decide)).1 (ha 1 (by decide)).2 ?_
  refine ll_arg (c := 2) (zi := zi) (x := x 2) rfl rfl ll_i156 ll_i157 ll_i159 ll_i160 ll_i161 (ha 2 (by decide)).1 (ha 2 (by decide)).2 ?_
  refine ll_arg (c := 3) (zi := zi) (x := x 3) rfl rfl ll_i162 ll_i163 ll_i165 ll_i166 ll_i167 (ha 3 (by decide)).1 (ha 3 (by decide)).2 ?_
  rcases hcase with ⟨hJ1, hno, -, hf1⟩ | ⟨ok1, m8, ok2, -, -, hqN, τ2, hU2, hut2, hH⟩
  · obtain ⟨vs2, hv2⟩ := ll_c40 hut hJ1
    refine ll_iv (as := [.int (x 1), .int (x 2), .int (x 3)]) (r := []) ll_i168 (j := 109) (b := 3) (d := 9) (by decide +kernel) hv2 rfl rfl rfl (Nat.le_of_ble_eq_true rfl) (mj := am_m109) rfl ⟨by decide, by decide, Nat.le_of_ble_eq_true rfl⟩ ?_
    refine Rn_mono (jm_machnQ hmc hU hut hJ1 (x 1) (x 2) (x 3) hno) (fun r hr => ?_)
    obtain ⟨z2, h2, rfl, hJ2, -, -, hf2⟩ := hr
    refine ⟨some (.int z2), h2, 0, 0, rfl, ?_⟩
    show ll_R (ll_x l kn) (171, ll_lo u zi (some (.int z1)) o6, [.int z2], h2, k + k1 + 0, q + q1 + 0) Q
    refine ll_st ll_i171 (S' := (173, ll_lo u zi (some (.int z1)) (some (.int z2)), [], h2, k + k1 + 0, q + q1 + 0)) rfl ?_
    refine ll_st ll_i173 (S' := (794, ll_lo u zi (some (.int z1)) (some (.int z2)), [], h2, k + k1 + 0, q + q1 + 0)) rfl ?_
    exact hn _ _ _ _ _ ⟨(ii_k hut hJ (q_trans hf1 hf2) hii), τ, mc, T, hmc, hU, hut, ⟨hT.1, by omega⟩, hJ2, by omega, by omega⟩
  · obtain ⟨vs2, hv2⟩ := ll_ch hut2 hH
    refine ll_iv (as := [.int (x 1), .int (x 2), .int (x 3)]) (r := []) ll_i168 (j := 109) (b := 3) (d := 9) (by decide +kernel) hv2 rfl rfl rfl (Nat.le_of_ble_eq_true rfl) (mj := am_m109) rfl ⟨by decide, by decide, Nat.le_of_ble_eq_true rfl⟩ ?_
    refine Rn_mono (jm_machQ (zl := x 1) m8 hU2 hut2 hH ok1 ok2) (fun r hr => ?_)
    obtain ⟨z2, h2, rfl, hJ2, -, -, -, hqV⟩ := hr
    refine ⟨some (.int z2), h2, 0, 0, rfl, ?_⟩
    show ll_R (ll_x l kn) (171, ll_lo u zi (some (.int z1)) o6, [.int z2], h2, k + k1 + 0, q + q1 + 0) Q
    refine ll_st ll_i171 (S' := (173, ll_lo u zi (some (.int z1)) (some (.int z2)), [], h2, k + k1 + 0, q + q1 + 0)) rfl ?_
    refine ll_st ll_i173 (S' := (794, ll_lo u zi (some (.int z1)) (some (.int z2)), [], h2, k + k1 + 0, q + q1 + 0)) rfl ?_
    exact hn _ _ _ _ _ ⟨(ii_m hut2 hH.1 hqN hqV hii), τ2, mc + 1, T, by omega, hU2, hut2, ⟨hT.1, by omega⟩, hJ2, by omega, by omega⟩
